section
-- ===== PART A: goes FIRST, ahead of the names: the tables' words, and 'selects' of the private methods out of them =====
/-- a private method of a class that the tables say can be made, by its rows of tables_1 -/
def lw_okq (q : MethodName × Nat) : Prop := (q.1.cls ≠ "java/lang/invoke/MethodHandle" ∧ q.1.cls ≠ "java/lang/invoke/VarHandle") ∧ Cond.instantiable q.1.cls q.2 ∈ tables_1 ∧ Cond.privateMethod q.1 ∈ tables_1 ∧ Cond.instanceMethod q.1 ∈ tables_1
theorem lw_p0 : lw_okq (⟨"CircleCells", "refresh", "()V"⟩, 3) := ⟨⟨by decide +kernel, by decide +kernel⟩, List.mem_of_getElem? (i := 16) (by decide +kernel), List.mem_of_getElem? (i := 127) (by decide +kernel), List.mem_of_getElem? (i := 128) (by decide +kernel)⟩
theorem lw_p1 : lw_okq (⟨"CircleCells$Mosaic", "layLeftOf", "(II)Z"⟩, 8) := ⟨⟨by decide +kernel, by decide +kernel⟩, List.mem_of_getElem? (i := 49) (by decide +kernel), List.mem_of_getElem? (i := 138) (by decide +kernel), List.mem_of_getElem? (i := 139) (by decide +kernel)⟩
theorem lw_p2 : lw_okq (⟨"CircleCells$Mosaic", "powerOf", "(I)J"⟩, 8) := ⟨⟨by decide +kernel, by decide +kernel⟩, List.mem_of_getElem? (i := 49) (by decide +kernel), List.mem_of_getElem? (i := 150) (by decide +kernel), List.mem_of_getElem? (i := 151) (by decide +kernel)⟩
theorem lw_p3 : lw_okq (⟨"CircleCells$Mosaic", "beginsCell", "(II)Z"⟩, 8) := ⟨⟨by decide +kernel, by decide +kernel⟩, List.mem_of_getElem? (i := 49) (by decide +kernel), List.mem_of_getElem? (i := 163) (by decide +kernel), List.mem_of_getElem? (i := 164) (by decide +kernel)⟩
theorem lw_p4 : lw_okq (⟨"CircleCells$Mosaic", "addCell", "(I)V"⟩, 8) := ⟨⟨by decide +kernel, by decide +kernel⟩, List.mem_of_getElem? (i := 49) (by decide +kernel), List.mem_of_getElem? (i := 167) (by decide +kernel), List.mem_of_getElem? (i := 168) (by decide +kernel)⟩
theorem lw_p5 : lw_okq (⟨"CircleCells$Mosaic", "insertRound", "(III)V"⟩, 8) := ⟨⟨by decide +kernel, by decide +kernel⟩, List.mem_of_getElem? (i := 49) (by decide +kernel), List.mem_of_getElem? (i := 171) (by decide +kernel), List.mem_of_getElem? (i := 172) (by decide +kernel)⟩
theorem lw_p6 : lw_okq (⟨"CircleCells$Mosaic", "claimSides", "(I)V"⟩, 8) := ⟨⟨by decide +kernel, by decide +kernel⟩, List.mem_of_getElem? (i := 49) (by decide +kernel), List.mem_of_getElem? (i := 175) (by decide +kernel), List.mem_of_getElem? (i := 176) (by decide +kernel)⟩
theorem lw_p7 : lw_okq (⟨"CircleCells$Mosaic", "siteAfter", "(II)I"⟩, 8) := ⟨⟨by decide +kernel, by decide +kernel⟩, List.mem_of_getElem? (i := 49) (by decide +kernel), List.mem_of_getElem? (i := 187) (by decide +kernel), List.mem_of_getElem? (i := 188) (by decide +kernel)⟩
theorem lw_p8 : lw_okq (⟨"CircleCells$Mosaic", "walkRim", "()V"⟩, 8) := ⟨⟨by decide +kernel, by decide +kernel⟩, List.mem_of_getElem? (i := 49) (by decide +kernel), List.mem_of_getElem? (i := 194) (by decide +kernel), List.mem_of_getElem? (i := 195) (by decide +kernel)⟩
theorem lw_p9 : lw_okq (⟨"CircleCells$Mosaic", "firstOnRim", "()I"⟩, 8) := ⟨⟨by decide +kernel, by decide +kernel⟩, List.mem_of_getElem? (i := 49) (by decide +kernel), List.mem_of_getElem? (i := 198) (by decide +kernel), List.mem_of_getElem? (i := 199) (by decide +kernel)⟩
theorem lw_p10 : lw_okq (⟨"CircleCells$Mosaic", "nextOnRim", "(I)I"⟩, 8) := ⟨⟨by decide +kernel, by decide +kernel⟩, List.mem_of_getElem? (i := 49) (by decide +kernel), List.mem_of_getElem? (i := 202) (by decide +kernel), List.mem_of_getElem? (i := 203) (by decide +kernel)⟩
theorem lw_p11 : lw_okq (⟨"java/lang/Throwable", "fillInStackTrace", "(I)Ljava/lang/Throwable;"⟩, 6) := ⟨⟨by decide +kernel, by decide +kernel⟩, List.mem_of_getElem? (i := 257) (by decide +kernel), List.mem_of_getElem? (i := 255) (by decide +kernel), List.mem_of_getElem? (i := 256) (by decide +kernel)⟩
theorem lw_p12 : lw_okq (⟨"CircleCells", "requireSite", "(I)V"⟩, 3) := ⟨⟨by decide +kernel, by decide +kernel⟩, List.mem_of_getElem? (i := 16) (by decide +kernel), List.mem_of_getElem? (i := 323) (by decide +kernel), List.mem_of_getElem? (i := 324) (by decide +kernel)⟩
theorem lw_p13 : lw_okq (⟨"CircleCells", "requireCell", "(I)V"⟩, 3) := ⟨⟨by decide +kernel, by decide +kernel⟩, List.mem_of_getElem? (i := 16) (by decide +kernel), List.mem_of_getElem? (i := 358) (by decide +kernel), List.mem_of_getElem? (i := 359) (by decide +kernel)⟩
theorem lw_p14 : lw_okq (⟨"CircleCells$Mosaic", "holds", "(III)Z"⟩, 8) := ⟨⟨by decide +kernel, by decide +kernel⟩, List.mem_of_getElem? (i := 49) (by decide +kernel), List.mem_of_getElem? (i := 450) (by decide +kernel), List.mem_of_getElem? (i := 451) (by decide +kernel)⟩
theorem lw_p15 : lw_okq (⟨"CircleCells$Sites", "squareTo", "(III)I"⟩, 3) := ⟨⟨by decide +kernel, by decide +kernel⟩, List.mem_of_getElem? (i := 24) (by decide +kernel), List.mem_of_getElem? (i := 467) (by decide +kernel), List.mem_of_getElem? (i := 468) (by decide +kernel)⟩
def lw_privs_1 : List (MethodName × Nat) := [(⟨"CircleCells", "refresh", "()V"⟩, 3), (⟨"CircleCells$Mosaic", "layLeftOf", "(II)Z"⟩, 8), (⟨"CircleCells$Mosaic", "powerOf", "(I)J"⟩, 8), (⟨"CircleCells$Mosaic", "beginsCell", "(II)Z"⟩, 8), (⟨"CircleCells$Mosaic", "addCell", "(I)V"⟩, 8), (⟨"CircleCells$Mosaic", "insertRound", "(III)V"⟩, 8), (⟨"CircleCells$Mosaic", "claimSides", "(I)V"⟩, 8), (⟨"CircleCells$Mosaic", "siteAfter", "(II)I"⟩, 8), (⟨"CircleCells$Mosaic", "walkRim", "()V"⟩, 8), (⟨"CircleCells$Mosaic", "firstOnRim", "()I"⟩, 8), (⟨"CircleCells$Mosaic", "nextOnRim", "(I)I"⟩, 8), (⟨"java/lang/Throwable", "fillInStackTrace", "(I)Ljava/lang/Throwable;"⟩, 6), (⟨"CircleCells", "requireSite", "(I)V"⟩, 3), (⟨"CircleCells", "requireCell", "(I)V"⟩, 3), (⟨"CircleCells$Mosaic", "holds", "(III)Z"⟩, 8), (⟨"CircleCells$Sites", "squareTo", "(III)I"⟩, 3)]
theorem lw_r1 : ∀ q ∈ lw_privs_1, lw_okq q := List.forall_mem_cons.mpr ⟨lw_p0, List.forall_mem_cons.mpr ⟨lw_p1, List.forall_mem_cons.mpr ⟨lw_p2, List.forall_mem_cons.mpr ⟨lw_p3, List.forall_mem_cons.mpr ⟨lw_p4, List.forall_mem_cons.mpr ⟨lw_p5, List.forall_mem_cons.mpr ⟨lw_p6, List.forall_mem_cons.mpr ⟨lw_p7, List.forall_mem_cons.mpr ⟨lw_p8, List.forall_mem_cons.mpr ⟨lw_p9, List.forall_mem_cons.mpr ⟨lw_p10, List.forall_mem_cons.mpr ⟨lw_p11, List.forall_mem_cons.mpr ⟨lw_p12, List.forall_mem_cons.mpr ⟨lw_p13, List.forall_mem_cons.mpr ⟨lw_p14, List.forall_mem_cons.mpr ⟨lw_p15, fun _ h => absurd h List.not_mem_nil⟩⟩⟩⟩⟩⟩⟩⟩⟩⟩⟩⟩⟩⟩⟩⟩
theorem lw_p16 : lw_okq (⟨"CircleCellsModel", "isTaken", "(III)Z"⟩, 11) := ⟨⟨by decide +kernel, by decide +kernel⟩, List.mem_of_getElem? (i := 471) (by decide +kernel), List.mem_of_getElem? (i := 522) (by decide +kernel), List.mem_of_getElem? (i := 523) (by decide +kernel)⟩
theorem lw_p17 : lw_okq (⟨"CircleCellsModel", "throwing", "(ZZ)Z"⟩, 11) := ⟨⟨by decide +kernel, by decide +kernel⟩, List.mem_of_getElem? (i := 471) (by decide +kernel), List.mem_of_getElem? (i := 526) (by decide +kernel), List.mem_of_getElem? (i := 527) (by decide +kernel)⟩
theorem lw_p18 : lw_okq (⟨"CircleCellsModel", "make", "()V"⟩, 11) := ⟨⟨by decide +kernel, by decide +kernel⟩, List.mem_of_getElem? (i := 471) (by decide +kernel), List.mem_of_getElem? (i := 553) (by decide +kernel), List.mem_of_getElem? (i := 554) (by decide +kernel)⟩
theorem lw_p19 : lw_okq (⟨"CircleCellsModel", "turn", "(IIII)J"⟩, 11) := ⟨⟨by decide +kernel, by decide +kernel⟩, List.mem_of_getElem? (i := 471) (by decide +kernel), List.mem_of_getElem? (i := 557) (by decide +kernel), List.mem_of_getElem? (i := 558) (by decide +kernel)⟩
theorem lw_p20 : lw_okq (⟨"CircleCellsModel", "onCircle", "(III)I"⟩, 11) := ⟨⟨by decide +kernel, by decide +kernel⟩, List.mem_of_getElem? (i := 471) (by decide +kernel), List.mem_of_getElem? (i := 561) (by decide +kernel), List.mem_of_getElem? (i := 562) (by decide +kernel)⟩
theorem lw_p21 : lw_okq (⟨"CircleCellsModel", "power", "(IIII)J"⟩, 11) := ⟨⟨by decide +kernel, by decide +kernel⟩, List.mem_of_getElem? (i := 471) (by decide +kernel), List.mem_of_getElem? (i := 565) (by decide +kernel), List.mem_of_getElem? (i := 566) (by decide +kernel)⟩
theorem lw_p22 : lw_okq (⟨"CircleCellsModel", "square", "(II)J"⟩, 11) := ⟨⟨by decide +kernel, by decide +kernel⟩, List.mem_of_getElem? (i := 471) (by decide +kernel), List.mem_of_getElem? (i := 569) (by decide +kernel), List.mem_of_getElem? (i := 570) (by decide +kernel)⟩
theorem lw_p23 : lw_okq (⟨"CircleCellsModel", "add", "(II)V"⟩, 11) := ⟨⟨by decide +kernel, by decide +kernel⟩, List.mem_of_getElem? (i := 471) (by decide +kernel), List.mem_of_getElem? (i := 573) (by decide +kernel), List.mem_of_getElem? (i := 574) (by decide +kernel)⟩
theorem lw_p24 : lw_okq (⟨"CircleCellsModel", "behind", "(II)I"⟩, 11) := ⟨⟨by decide +kernel, by decide +kernel⟩, List.mem_of_getElem? (i := 471) (by decide +kernel), List.mem_of_getElem? (i := 577) (by decide +kernel), List.mem_of_getElem? (i := 578) (by decide +kernel)⟩
theorem lw_p25 : lw_okq (⟨"CircleCellsModel", "isBefore", "(II)Z"⟩, 11) := ⟨⟨by decide +kernel, by decide +kernel⟩, List.mem_of_getElem? (i := 471) (by decide +kernel), List.mem_of_getElem? (i := 581) (by decide +kernel), List.mem_of_getElem? (i := 582) (by decide +kernel)⟩
theorem lw_p26 : lw_okq (⟨"CircleCellsModel", "surround", "()V"⟩, 11) := ⟨⟨by decide +kernel, by decide +kernel⟩, List.mem_of_getElem? (i := 471) (by decide +kernel), List.mem_of_getElem? (i := 585) (by decide +kernel), List.mem_of_getElem? (i := 586) (by decide +kernel)⟩
theorem lw_p27 : lw_okq (⟨"CircleCellsModel", "onHull", "(I)I"⟩, 11) := ⟨⟨by decide +kernel, by decide +kernel⟩, List.mem_of_getElem? (i := 471) (by decide +kernel), List.mem_of_getElem? (i := 589) (by decide +kernel), List.mem_of_getElem? (i := 590) (by decide +kernel)⟩
theorem lw_p28 : lw_okq (⟨"CircleCellsModel", "after", "(II)I"⟩, 11) := ⟨⟨by decide +kernel, by decide +kernel⟩, List.mem_of_getElem? (i := 471) (by decide +kernel), List.mem_of_getElem? (i := 593) (by decide +kernel), List.mem_of_getElem? (i := 594) (by decide +kernel)⟩
theorem lw_p29 : lw_okq (⟨"CircleCellsModel", "withSide", "(II)I"⟩, 11) := ⟨⟨by decide +kernel, by decide +kernel⟩, List.mem_of_getElem? (i := 471) (by decide +kernel), List.mem_of_getElem? (i := 597) (by decide +kernel), List.mem_of_getElem? (i := 598) (by decide +kernel)⟩
def lw_privs_2 : List (MethodName × Nat) := [(⟨"CircleCellsModel", "isTaken", "(III)Z"⟩, 11), (⟨"CircleCellsModel", "throwing", "(ZZ)Z"⟩, 11), (⟨"CircleCellsModel", "make", "()V"⟩, 11), (⟨"CircleCellsModel", "turn", "(IIII)J"⟩, 11), (⟨"CircleCellsModel", "onCircle", "(III)I"⟩, 11), (⟨"CircleCellsModel", "power", "(IIII)J"⟩, 11), (⟨"CircleCellsModel", "square", "(II)J"⟩, 11), (⟨"CircleCellsModel", "add", "(II)V"⟩, 11), (⟨"CircleCellsModel", "behind", "(II)I"⟩, 11), (⟨"CircleCellsModel", "isBefore", "(II)Z"⟩, 11), (⟨"CircleCellsModel", "surround", "()V"⟩, 11), (⟨"CircleCellsModel", "onHull", "(I)I"⟩, 11), (⟨"CircleCellsModel", "after", "(II)I"⟩, 11), (⟨"CircleCellsModel", "withSide", "(II)I"⟩, 11)]
theorem lw_r2 : ∀ q ∈ lw_privs_2, lw_okq q := List.forall_mem_cons.mpr ⟨lw_p16, List.forall_mem_cons.mpr ⟨lw_p17, List.forall_mem_cons.mpr ⟨lw_p18, List.forall_mem_cons.mpr ⟨lw_p19, List.forall_mem_cons.mpr ⟨lw_p20, List.forall_mem_cons.mpr ⟨lw_p21, List.forall_mem_cons.mpr ⟨lw_p22, List.forall_mem_cons.mpr ⟨lw_p23, List.forall_mem_cons.mpr ⟨lw_p24, List.forall_mem_cons.mpr ⟨lw_p25, List.forall_mem_cons.mpr ⟨lw_p26, List.forall_mem_cons.mpr ⟨lw_p27, List.forall_mem_cons.mpr ⟨lw_p28, List.forall_mem_cons.mpr ⟨lw_p29, fun _ h => absurd h List.not_mem_nil⟩⟩⟩⟩⟩⟩⟩⟩⟩⟩⟩⟩⟩⟩
def lw_privs : List (MethodName × Nat) := lw_privs_1 ++ (lw_privs_2)
def lw_tbl : List Cond := k2_sels lw_privs ++ tables_1
theorem lw_privs_ok : ∀ q ∈ lw_privs, lw_okq q := by
  show ∀ q ∈ lw_privs_1 ++ (lw_privs_2), lw_okq q
  exact List.forall_mem_append.mpr ⟨lw_r1, lw_r2⟩
end
section
/-! ===== BEGIN words of one list among another's, by their places ===== -/
theorem goodIn_r {big : List Cond} (ws : List Cond) (ps : List Nat) (hp : ws = ps.filterMap (fun i => big[i]?)) (h : ws.all goodWord = true) : GoodIn big ws := by
  intro w hw
  have h1 := List.all_eq_true.mp h w hw
  rw [hp] at hw
  obtain ⟨i, -, hi⟩ := List.mem_filterMap.mp hw
  have hm : w ∈ big := by first | exact List.mem_of_getElem? hi | exact List.getElem?_mem hi
  exact ⟨hm, good_of_word h1⟩
theorem goodIn_app {big a b : List Cond} (ha : GoodIn big a) (hb : GoodIn big b) : GoodIn big (a ++ b) := fun w h => (List.mem_append.mp h).elim (ha w) (hb w)
theorem goodIn_ca {big a b : List Cond} {c : Cond} (ha : GoodIn big (c :: a)) (hb : GoodIn big b) : GoodIn big (c :: (a ++ b)) := fun w h => (List.mem_cons.mp h).elim (fun e => ha w (List.mem_cons.mpr (Or.inl e))) (fun h => (List.mem_append.mp h).elim (fun h => ha w (List.mem_cons.mpr (Or.inr h))) (hb w))
theorem goodIn_sub {big ws : List Cond} (hm : ∀ w ∈ ws, w ∈ big) (h : ws.all goodWord = true) : GoodIn big ws := fun w hw => ⟨hm w hw, good_of_word (List.all_eq_true.mp h w hw)⟩
/-! ===== END ===== -/

/-! ===== BEGIN exceptions that leave a method, and their catching by the caller (launches without stack traces) ===== -/
section VXA
/-! The laws vx_back, vx_callV, vx_callS, vx_callSW, vx_throw0, vx_throwS follow proofs of the library, with one case more: JvmDerived/Free/Laws.lean (Back.of_free), Shelf42/LK1.lean (callV, callS), Shelf/KitTraced.lean (throwNew0V, throwNewS). -/
/-- where a method has thrown q: the class by its name, the cell, what was written, the world -/
def vx_T (XC : String → State → State → Prop) (st : State) (q : Addr) (t : State) (mc ms : Nat) (free : Addr → Prop) : Prop :=
  ∃ (E : String) (ce : Cell) (L : List Loc), XC E st t ∧ t.heap[q]? = some ce ∧ ce.vm = .none ∧ st.vm.findClass E = some ce.cls ∧ st.WarmedH t.vm ∧ st.sameButNew ({ t with vm := st.vm } : State) L mc ms ∧ ∀ z ∈ L, free z.base
def vx_Q (Qc : Array Value → State → Outcome → State → Prop) (XC : String → State → State → Prop) (mc ms : Nat) (free : Addr → Prop) : Array Value → State → Outcome → State → Prop := fun a st o t =>
  (Qc a st o t ∧ ∃ L, FrameEnd st o t L mc ms ∧ ∀ q ∈ L, free q.base) ∨ ∃ q, o = .threw q ∧ vx_T XC st q t mc ms free
/-- a callee that returns or throws -/
def vx_Met (l : Launch) (y : MethodName) (ws : List Cond) (rm : Room) (Pc : Array Value → State → Prop) (Qc : Array Value → State → Outcome → State → Prop) (XC : String → State → State → Prop) (mc ms : Nat) (free : Addr → Prop) : Prop :=
  MetFree l y (headSpec ws rm) Pc (fun _ _ _ _ _ => True) (vx_Q Qc XC mc ms free)
def vx_Post (XC : String → State → State → Prop) (mc ms : Nat) (free : Addr → Prop) : Pt → Array Value → Addr → Pt → Prop := fun A a q B =>
  ∃ (g : JFrame) (mk : MethodId) (t : State) (L : List Loc) (E : String) (ce : Cell), B.U.heap = t.heap ∧ B.U.vm = t.vm ∧ XC E (A.U.calling g mk a) t ∧ t.heap[q]? = some ce ∧ ce.vm = .none ∧ A.U.vm.findClass E = some ce.cls ∧ B.locs = A.locs ++ L ∧ (∀ z ∈ L, free z.base) ∧ B.cells = A.cells + mc ∧ B.slots = A.slots + ms
def vx_Back (l : Launch) (R : Room) (p : Program) (e : Env) (below : List Frame) (s : State) (sargs : Array Value) (y : MethodName) (len W9 : Nat)
    (Pre : Pt → Array Value → Prop) (Post : Pt → Array Value → Option Value → Pt → Prop) (PostX : Pt → Array Value → Addr → Pt → Prop) : Prop :=
  ∀ (m : MethodId) (meth : Method) (c : Code) (A : Pt) (g : JFrame) (ig : Instr) (mk : MethodId) (a : Array Value),
    Stand p l e R s m sargs below meth c A.U A.locs A.cells A.slots → g.method = m → g.locals.size = c.maxLocals → decode c.code g.pc = .ok (ig, len) →
    2 * g.monitorRoom + (g.stack.map fun v => v.category).sum ≤ W9 → A.U.methodNamed? y = some mk → Pre A a →
    (∃ (v : Option Value) (B : Pt), Stand p l e R s m sargs below meth c B.U B.locs B.cells B.slots ∧ Post A a v B ∧
      Steps p.tables e below (doInvoke e (A.U.setTop g) [] mk a).1 (B.U.setTop { g with pc := g.pc + len, stack := v.toList ++ g.stack })) ∨
    (∃ (q : Addr) (B : Pt), Stand p l e R s m sargs below meth c B.U B.locs B.cells B.slots ∧ PostX A a q B ∧
      Steps p.tables e below (doInvoke e (A.U.setTop g) [] mk a).1 ((B.U.setTop g).pushFrame (.throwing q)))
section Payer
variable {l : Launch} {R : Room} {p : Program} {e : Env} {below : List Frame} {s : State} {sargs : Array Value} {y : MethodName} {len W9 : Nat}
theorem vx_back {ws : List Cond} {rm : Room} {Pc : Array Value → State → Prop} {Qc : Array Value → State → Outcome → State → Prop} {XC : String → State → State → Prop} {mc ms : Nat} {free : Addr → Prop} {bytes : ByteArray} {maxL : Nat} {ret : Option FieldType}
    (hM : vx_Met l y ws rm Pc Qc XC mc ms free) (hblind : FrameBlind Pc) (hrc : rm.cells = mc) (hrs : rm.slots = ms)
    (hframes : rm.frames + 1 ≤ R.frames) (hlocals : W9 + (maxL + 11) + rm.locals ≤ R.locals)
    (hws : ∀ w ∈ ws, ∀ a' U, s.WarmedH U.vm → w.before a' U = true) (hcode : Cond.code y bytes maxL ret ∈ ws) (hinit : ∀ a' U, s.WarmedH U.vm → (Cond.initialized y.cls).before a' U = true) :
    vx_Back l R p e below s sargs y len W9 (PreOf R mc ms Pc) (PostOf Qc mc ms free) (vx_Post XC mc ms free) := by
  intro m meth c A g ig mk a X hg hsize hdg hW hn hp
  have h1 : (headSpec ws rm).pre.before a A.U = true := atoms_intro fun w hw => hws w hw _ _ X.warmed
  have h2 : (Cond.code y bytes maxL ret).before a A.U = true := hws _ hcode _ _ X.warmed
  have h3 : (Cond.initialized y.cls).before a A.U = true := hinit _ _ X.warmed
  have h4 : A.cells + (headSpec ws rm).room.cells ≤ R.cells := by rw [show (headSpec ws rm).room.cells = mc from hrc]; exact hp.1
  have h5 : A.slots + (headSpec ws rm).room.slots ≤ R.slots := by rw [show (headSpec ws rm).room.slots = ms from hrs]; exact hp.2.1
  have hPc : Pc a (A.U.calling g mk a) := hblind _ _ _ _ hp.2.2
  obtain ⟨U, Ls, c0, s0⟩ := A
  dsimp only [Pt.U, Pt.locs, Pt.cells, Pt.slots] at h1 h2 h3 h4 h5 X hn hPc ⊢
  obtain ⟨methY, cY, hmY, hcY, -, hlY, -, -, -, -⟩ := Cond.code_spec hn h2
  obtain ⟨kY, hkY, -⟩ := className_of_methodNamed hn
  have hinitY : kY.init = .initialized := Cond.initialized_spec (findClass_of_methodNamed hn) hkY h3
  have h : At U g.method c below := by rw [hg]; exact X.here
  have hlocals9 : W9 + (maxL + 11) + (headSpec ws rm).room.locals ≤ R.locals := hlocals
  have happ : (headSpec ws rm).appliesLoose y e.platform (U.calling g mk a) = true :=
    Spec.appliesLoose_calling (g := g) h hdg hn hkY hinitY
      (X.room_calling (g := g) (R' := (headSpec ws rm).room) hsize hmY hcY hframes (by rw [hlY]; omega) h4 h5) h1
  obtain ⟨mid, hmid⟩ := h.above
  have hfr : (U.setTop g).frames = (.java g :: mid) ++ below := by rw [State.frames_setTop' g h.top, hmid]; rfl
  obtain ⟨o, s₂, hsteps, -, hend, hq⟩ := Steps.callFree hM p X.admits X.cas X.clock (acts := []) hfr happ hPc trivial
  have hq' : vx_Q Qc XC mc ms free a (U.calling g mk a) o s₂ := hq
  rw [State.frames_setTop' g h.top] at hend
  obtain ⟨g₀, hg0⟩ := Option.isSome_iff_exists.mp h.top
  obtain ⟨r, hr⟩ := State.topJava?_eq_some.mp hg0
  have hr' : (({ U with heap := s₂.heap, slotsUsed := s₂.slotsUsed } : State).setVm s₂.vm).frames = .java g₀ :: r := hr
  rcases hq' with ⟨hqc, L, hfe, hL⟩ | ⟨q, rfl, E, ce, L, hx, hce, hcv, hcl, hW₂, hsm, hL⟩
  · obtain ⟨⟨v, rfl⟩, hW₂, e2, q2, q3, q4, q5, q6⟩ := id hfe
    have e3 : s₂ = ({ (U.calling g mk a).setFrames s₂.frames with heap := s₂.heap, slotsUsed := s₂.slotsUsed } : State).setVm s₂.vm := by
      have : s₂ = ({ s₂ with vm := (U.calling g mk a).vm } : State).setVm s₂.vm := rfl
      rw [e2] at this
      exact this
    obtain ⟨c₂, i₂, len₂, hc₂, hd₂, hf₂⟩ := hend
    have hW' : U.WarmedH s₂.vm := hW₂
    have hcc : c₂ = c := by
      have h1 : s₂.code? g.method = U.code? g.method := by
        rw [State.code?_eq, State.code?_eq, hW'.alike.method?]
      exact Option.some.inj (hc₂.symm.trans (h1.trans h.code))
    subst hcc
    have hlen : len₂ = len := by rw [hdg] at hd₂; cases hd₂; rfl
    subst hlen
    have hs₂ : s₂ = (({ U with heap := s₂.heap, slotsUsed := s₂.slotsUsed } : State).setVm s₂.vm).setTop { g with pc := g.pc + len₂, stack := v.toList ++ g.stack } := by
      refine e3.trans ?_
      rw [hf₂, State.calling_eq h.top, State.setFrames_setFrames, State.setTop_of_frames _ hr', hr]
      rfl
    have hsame : U.sameButNew ({ U with heap := s₂.heap, slotsUsed := s₂.slotsUsed } : State) L mc ms := by
      refine ⟨?_, q2, q3, q4, q5, q6⟩
      obtain ⟨t, ht, -⟩ := State.frames_cons hr
      show ({ U with heap := s₂.heap, slotsUsed := s₂.slotsUsed } : State) = { U.setFrames U.frames with heap := s₂.heap, slotsUsed := s₂.slotsUsed }
      rw [State.setFrames_self ht]
    subst hg
    refine Or.inl ⟨v, ⟨(({ U with heap := s₂.heap, slotsUsed := s₂.slotsUsed } : State).setVm s₂.vm), Ls ++ L, c0 + mc, s0 + ms⟩,
      ⟨X.admits, X.cas, X.clock, X.frames, X.room, X.hears, X.method, X.code, (X.here.setHeapUsed s₂.heap s₂.slotsUsed).setVm hW'.alike, X.tail, State.WarmedH.trans X.warmed hW', X.limits, X.bytes, X.same.trans (hsame.setVm s.vm)⟩,
      ⟨g, mk, s₂, L, rfl, rfl, hqc, rfl, hL, rfl, rfl⟩, ?_⟩
    show Steps p.tables e below _ ((({ U with heap := s₂.heap, slotsUsed := s₂.slotsUsed } : State).setVm s₂.vm).setTop { g with pc := g.pc + len₂, stack := v.toList ++ g.stack })
    rw [← hs₂]
    exact hsteps
  · obtain ⟨e2, q2, q3, q4, q5, q6⟩ := id hsm
    have e3 : s₂ = ({ (U.calling g mk a).setFrames s₂.frames with heap := s₂.heap, slotsUsed := s₂.slotsUsed } : State).setVm s₂.vm := by
      have : s₂ = ({ s₂ with vm := (U.calling g mk a).vm } : State).setVm s₂.vm := rfl
      rw [e2] at this
      exact this
    have hf₂ : s₂.frames = .throwing q :: .java g :: U.frames.tail := hend
    have hW' : U.WarmedH s₂.vm := hW₂
    have hs₂ : s₂ = ((({ U with heap := s₂.heap, slotsUsed := s₂.slotsUsed } : State).setVm s₂.vm).setTop g).pushFrame (.throwing q) := by
      refine e3.trans ?_
      rw [hf₂, State.calling_eq h.top, State.setFrames_setFrames, State.pushFrame, State.frames_setTop _ hr', State.setTop_of_frames _ hr', State.setFrames_setFrames, hr]
      rfl
    have hsame : U.sameButNew ({ U with heap := s₂.heap, slotsUsed := s₂.slotsUsed } : State) L mc ms := by
      refine ⟨?_, q2, q3, q4, q5, q6⟩
      obtain ⟨t, ht, -⟩ := State.frames_cons hr
      show ({ U with heap := s₂.heap, slotsUsed := s₂.slotsUsed } : State) = { U.setFrames U.frames with heap := s₂.heap, slotsUsed := s₂.slotsUsed }
      rw [State.setFrames_self ht]
    subst hg
    refine Or.inr ⟨q, ⟨(({ U with heap := s₂.heap, slotsUsed := s₂.slotsUsed } : State).setVm s₂.vm), Ls ++ L, c0 + mc, s0 + ms⟩,
      ⟨X.admits, X.cas, X.clock, X.frames, X.room, X.hears, X.method, X.code, (X.here.setHeapUsed s₂.heap s₂.slotsUsed).setVm hW'.alike, X.tail, State.WarmedH.trans X.warmed hW', X.limits, X.bytes, X.same.trans (hsame.setVm s.vm)⟩,
      ⟨g, mk, s₂, L, E, ce, rfl, rfl, hx, hce, hcv, hcl, rfl, hL, rfl, rfl⟩, ?_⟩
    show Steps p.tables e below _ (((({ U with heap := s₂.heap, slotsUsed := s₂.slotsUsed } : State).setVm s₂.vm).setTop g).pushFrame (.throwing q))
    rw [← hs₂]
    exact hsteps
end Payer
section Calls
variable {p : Program} {l : Launch} {e : Env} {R : Room} {s : State} {m : MethodId} {args : Array Value} {below : List Frame} {meth : Method} {c : Code} {T : State} {locs : List Loc} {cells slots : Nat}
theorem vx_callV (X : Stand p l e R s m args below meth c T locs cells slots) (hexec : p.tables.exec = Jvm.exec) {own C : String} {index : Nat} {y : MethodName} {bytes : ByteArray} {maxL : Nat} {ret : Option FieldType}
    (hown : s.vm.findClass own = some m.cls) (hlink : (Cond.methodLink own index y).before args s = true) (hinst : (Cond.instanceMethod y).before args s = true) (hsel : (Cond.selects C y y).before args s = true)
    (hcode : (Cond.code y bytes maxL ret).before args s = true) (hy : y.cls ≠ "java/lang/invoke/MethodHandle" ∧ y.cls ≠ "java/lang/invoke/VarHandle")
    {W9 : Nat} {Pre : Pt → Array Value → Prop} {Post : Pt → Array Value → Option Value → Pt → Prop} {PostX : Pt → Array Value → Addr → Pt → Prop} (hK : vx_Back l R p e below s args y 3 W9 Pre Post PostX)
    {b : Addr} {cellB : Cell} (hcell : T.heap[b]? = some cellB) (hobj : cellB.vm.isStatics = false) (hcls : s.vm.findClass C = some cellB.cls)
    {g : JFrame} (hg : g.method = m) (hsize : g.locals.size = c.maxLocals) {argsL rest : List Value} (hlen : ∀ sig, parseMethodDescriptor y.desc = some sig → argsL.length = sig.parameters.length)
    (hstack : g.stack = argsL.reverse ++ .ref b :: rest) (hW : 2 * g.monitorRoom + (rest.map fun v => v.category).sum ≤ W9) (hdg : decode c.code g.pc = .ok (.invokevirtual index, 3))
    (hpre : ∀ vm₁, s.WarmedH vm₁ → Pre ⟨T.setVm vm₁, locs, cells, slots⟩ (Value.ref b :: argsL).toArray) :
    (∃ (v : Option Value) (vm₁ : Vm) (B : Pt), s.WarmedH vm₁ ∧ Stand p l e R s m args below meth c B.U B.locs B.cells B.slots ∧ Post ⟨T.setVm vm₁, locs, cells, slots⟩ (Value.ref b :: argsL).toArray v B ∧
      ∀ target, Steps p.tables e below (B.U.setTop { g with pc := g.pc + 3, stack := v.toList ++ rest }) target → Steps p.tables e below (T.setTop g) target) ∨
    (∃ (q : Addr) (vm₁ : Vm) (B : Pt), s.WarmedH vm₁ ∧ Stand p l e R s m args below meth c B.U B.locs B.cells B.slots ∧ PostX ⟨T.setVm vm₁, locs, cells, slots⟩ (Value.ref b :: argsL).toArray q B ∧
      Steps p.tables e below (T.setTop g) ((B.U.setTop { g with stack := rest }).pushFrame (.throwing q))) := by
  obtain ⟨mk, methM, hnamed, hmethM, hstM, habM⟩ := Cond.instanceMethod_spec hinst
  obtain ⟨methM', cM, hmethM', -, -, -, -, -, -, hsigM⟩ := Cond.code_spec hnamed hcode
  cases hmethM.symm.trans hmethM'
  obtain ⟨c2, r2, m2, q1, q2, q3, q4, kP, hkP, hkPi⟩ := Cond.selects_spec hsel
  cases hcls.symm.trans q1
  cases (State.methodFound?_of_named hnamed hy).symm.trans q2
  cases hnamed.symm.trans q3
  have hselP : selectMethod e.platform s.vm cellB.cls mk = .method mk := by rw [Launch.admits_selectMethod X.admits]; exact q4
  obtain ⟨vm₁, X₁, hstep₁⟩ := X.invokevirtual hexec hown hlink hnamed hmethM hstM hkP hkPi hy (a := b) (cell := cellB) hcell
    (fun z h => by rw [h] at hobj; cases hobj) hselP hmethM habM hkP hkPi (g := g) hg (argsL := argsL) (rest := rest) (hlen _ hsigM) hstack hdg
  rcases hK m meth c ⟨T.setVm vm₁, locs, cells, slots⟩ { g with stack := rest } (.invokevirtual index) mk (Value.ref b :: argsL).toArray X₁ hg hsize hdg hW (X₁.named hnamed) (hpre vm₁ X₁.warmed) with ⟨v, B, X', hpost, hsteps⟩ | ⟨q, B, X', hpost, hsteps⟩
  · exact Or.inl ⟨v, vm₁, B, X₁.warmed, X', hpost, fun target h => hstep₁ _ fun acts => by rw [doInvoke_state]; exact hsteps.trans h⟩
  · exact Or.inr ⟨q, vm₁, B, X₁.warmed, X', hpost, hstep₁ _ fun acts => by rw [doInvoke_state]; exact hsteps⟩
theorem vx_callS (X : Stand p l e R s m args below meth c T locs cells slots) (hexec : p.tables.exec = Jvm.exec) {own : String} {index : Nat} {y : MethodName} {bytes : ByteArray} {maxL : Nat} {ret : Option FieldType}
    (hown : s.vm.findClass own = some m.cls) (hlink : (Cond.methodLink own index y).before args s = true) (hstat : (Cond.static y).before args s = true) (hinit : (Cond.initialized y.cls).before args s = true)
    (hcode : (Cond.code y bytes maxL ret).before args s = true) (hy : y.cls ≠ "java/lang/invoke/MethodHandle" ∧ y.cls ≠ "java/lang/invoke/VarHandle")
    {W9 : Nat} {Pre : Pt → Array Value → Prop} {Post : Pt → Array Value → Option Value → Pt → Prop} {PostX : Pt → Array Value → Addr → Pt → Prop} (hK : vx_Back l R p e below s args y 3 W9 Pre Post PostX)
    {g : JFrame} (hg : g.method = m) (hsize : g.locals.size = c.maxLocals) {argsL rest : List Value} (hlen : ∀ sig, parseMethodDescriptor y.desc = some sig → argsL.length = sig.parameters.length)
    (hstack : g.stack = argsL.reverse ++ rest) (hW : 2 * g.monitorRoom + (rest.map fun v => v.category).sum ≤ W9) (hdg : decode c.code g.pc = .ok (.invokestatic index, 3))
    (hpre : ∀ vm₁, s.WarmedH vm₁ → Pre ⟨T.setVm vm₁, locs, cells, slots⟩ argsL.toArray) :
    (∃ (v : Option Value) (vm₁ : Vm) (B : Pt), s.WarmedH vm₁ ∧ Stand p l e R s m args below meth c B.U B.locs B.cells B.slots ∧ Post ⟨T.setVm vm₁, locs, cells, slots⟩ argsL.toArray v B ∧
      ∀ target, Steps p.tables e below (B.U.setTop { g with pc := g.pc + 3, stack := v.toList ++ rest }) target → Steps p.tables e below (T.setTop g) target) ∨
    (∃ (q : Addr) (vm₁ : Vm) (B : Pt), s.WarmedH vm₁ ∧ Stand p l e R s m args below meth c B.U B.locs B.cells B.slots ∧ PostX ⟨T.setVm vm₁, locs, cells, slots⟩ argsL.toArray q B ∧
      Steps p.tables e below (T.setTop g) ((B.U.setTop { g with stack := rest }).pushFrame (.throwing q))) := by
  obtain ⟨mk, hnamed⟩ := Cond.code_named hcode
  obtain ⟨methM, cM, hmethM, -, -, -, -, -, -, hsigM⟩ := Cond.code_spec hnamed hcode
  have hstatic : methM.isStatic = true := Cond.static_spec hnamed hmethM hstat
  obtain ⟨kP, hkP, -⟩ := className_of_methodNamed hnamed
  have hinitP : kP.init = .initialized := Cond.initialized_spec (findClass_of_methodNamed hnamed) hkP hinit
  obtain ⟨vm₁, X₁, hstep₁⟩ := X.invokestatic hexec hown hlink hnamed hmethM hstatic hkP hinitP hy (g := g) hg (argsL := argsL) (rest := rest) (hlen _ hsigM) hstack hdg
  rcases hK m meth c ⟨T.setVm vm₁, locs, cells, slots⟩ { g with stack := rest } (.invokestatic index) mk argsL.toArray X₁ hg hsize hdg hW (X₁.named hnamed) (hpre vm₁ X₁.warmed) with ⟨v, B, X', hpost, hsteps⟩ | ⟨q, B, X', hpost, hsteps⟩
  · exact Or.inl ⟨v, vm₁, B, X₁.warmed, X', hpost, fun target h => hstep₁ _ fun acts => by rw [doInvoke_state]; exact hsteps.trans h⟩
  · exact Or.inr ⟨q, vm₁, B, X₁.warmed, X', hpost, hstep₁ _ fun acts => by rw [doInvoke_state]; exact hsteps⟩
end Calls
theorem vx_cls {s : State} {T : State} {vm₁ : Vm} {E : String} {k : ClassId} (hW : s.WarmedH vm₁) (h : (T.setVm vm₁).vm.findClass E = some k) : s.vm.findClass E = some k := by
  have h1 : vm₁.findClass E = some k := h
  rw [hW.alike.findClass] at h1
  exact h1
/-- the method's frame g, with q thrown over it -/
def vx_W (p : Program) (l : Launch) (e : Env) (R : Room) (s : State) (m : MethodId) (args : Array Value) (below : List Frame) (meth : Method) (c : Code) (H : Heap) (locs : List Loc) (cells slots : Nat) (Q : State → Prop) (g : JFrame) (q : Addr) : Prop :=
  ∀ T : State, T.heap = H → Stand p l e R s m args below meth c T locs cells slots → ∃ t, Steps p.tables e below ((T.setTop g).pushFrame (.throwing q)) t ∧ Q t
def vx_Run (p : Program) (l : Launch) (e : Env) (R : Room) (s : State) (m : MethodId) (args : Array Value) (below : List Frame) (meth : Method) (c : Code) (H : Heap) (locs : List Loc) (cells slots mc ms : Nat) (g : JFrame) (rest : List Value) (Qa : State → Outcome → State → Prop) (XC : String → State → State → Prop) (free : Addr → Prop) : Prop :=
  ∀ T : State, T.heap = H → Stand p l e R s m args below meth c T locs cells slots →
    (∃ (v : Option Value) (st₀ t T' : State) (L : List Loc), st₀.heap = H ∧ Stand p l e R s m args below meth c T' (locs ++ L) (cells + mc) (slots + ms) ∧ (∀ q ∈ L, free q.base) ∧ T'.heap = t.heap ∧ T'.vm = t.vm ∧ Qa st₀ (.returned v) t ∧
      Goes p e below T g T' { g with pc := g.pc + 3, stack := v.toList ++ rest }) ∨
    (∃ (q : Addr) (st₀ t T' : State) (L : List Loc) (E : String) (ce : Cell), st₀.heap = H ∧ Stand p l e R s m args below meth c T' (locs ++ L) (cells + mc) (slots + ms) ∧ (∀ z ∈ L, free z.base) ∧ T'.heap = t.heap ∧ T'.vm = t.vm ∧ XC E st₀ t ∧ t.heap[q]? = some ce ∧ ce.vm = .none ∧ s.vm.findClass E = some ce.cls ∧
      Steps p.tables e below (T.setTop g) ((T'.setTop { g with stack := rest }).pushFrame (.throwing q)))
def vx_X {S : Type} (px : S → Prop) (B : String → S → State → Prop) (A : Nat → Prop) : String → State → State → Prop := fun E st t => ∃ u : S, px u ∧ B E u t ∧ va_F A st t
section Runs
variable {p : Program} {l : Launch} {e : Env} {R : Room} {s : State} {m : MethodId} {args : Array Value} {below : List Frame} {meth : Method} {c : Code} {H : Heap} {locs : List Loc} {cells slots : Nat}
variable {y : MethodName} {bytes cc : ByteArray} {maxL nL mc ms n index : Nat} {ret : Option FieldType} {ws : List Cond} {rm : Room} {Pc : Array Value → State → Prop} {Qc : Array Value → State → Outcome → State → Prop} {XC : String → State → State → Prop} {free : Addr → Prop} {Ts : List Cond} {own C : String} {b : Addr} {As rest : List Value} {g : JFrame}
theorem vx_callBack (cb : CallB R s args own index y bytes maxL ret ws rm mc ms n) (hM : vx_Met l y ws rm Pc Qc XC mc ms free) (hbl : FrameBlind Pc) : vx_Back l R p e below s args y 3 8 (PreOf R mc ms Pc) (PostOf Qc mc ms free) (vx_Post XC mc ms free) := by
  obtain ⟨hrc, hrs, hfr, hlo, hws, hcw, -, hini, -⟩ := cb
  exact vx_back (bytes := bytes) (maxL := maxL) (ret := ret) hM hbl hrc hrs hfr hlo hws hcw (fun a' U hW => word_at hW (Or.inl (by first | rfl | simp [Cond.onTables, Cond.keeps, Cond.steady])) hini)
theorem vx_runV (S : CallFix p m c cc nL s args Ts own) (hM : vx_Met l y ws rm Pc Qc XC mc ms free) (cw : CallW R s args own C index y bytes maxL ret ws rm mc ms n) (hp : PreV s H C b Pc As)
    (hg : g.method = m) (hn : As.length = n) (hsize : g.locals.size = nL) (hstack : g.stack = As.reverse ++ .ref b :: rest) (hW : 2 * g.monitorRoom + (rest.map fun v => v.category).sum ≤ 8) (hdg : decode cc g.pc = .ok (.invokevirtual index, 3)) (hf : cells + mc ≤ R.cells ∧ slots + ms ≤ R.slots) :
    vx_Run p l e R s m args below meth c H locs cells slots mc ms g rest (Qc (Value.ref b :: As).toArray) XC free := by
  have hK : vx_Back l R p e below s args y 3 8 (PreOf R mc ms Pc) (PostOf Qc mc ms free) (vx_Post XC mc ms free) := vx_callBack cw.1 hM hp.1
  obtain ⟨⟨-, -, -, -, -, -, hcode, -, hy, hlen, hl⟩, hin, hse⟩ := cw
  obtain ⟨hx, hb, hml, ho, -⟩ := S
  obtain ⟨-, ⟨cellB, hcB, hoB, hclB⟩, hPc⟩ := hp
  intro T hT X
  rcases vx_callV X hx (C := C) (bytes := bytes) (maxL := maxL) (ret := ret) ho hl hin hse hcode hy hK (by rw [hT]; exact hcB) hoB hclB hg (hsize.trans hml.symm) (argsL := As) (rest := rest) (fun sig h => hn.trans (hlen sig h)) hstack hW (by rw [hb]; exact hdg)
    (fun vm₁ hW₁ => ⟨hf.1, hf.2, hPc (T.setVm vm₁) hT hW₁⟩) with ⟨v, vm₁, ⟨U', l2, c2, s2⟩, hW₁, X', ⟨g', mk, t, L, e1, e2, hq, h1, hL, h2, h3⟩, st⟩ | ⟨q, vm₁, ⟨U', l2, c2, s2⟩, hW₁, X', ⟨g', mk, t, L, E, ce, e1, e2, hq, hce, hcv, hcl, h1, hL, h2, h3⟩, st⟩
  · dsimp only [Pt.U, Pt.locs, Pt.cells, Pt.slots] at X' e1 e2 h1 h2 h3 st
    subst h1; subst h2; subst h3
    exact Or.inl ⟨v, (T.setVm vm₁).calling g' mk (Value.ref b :: As).toArray, t, U', L, hT, X', hL, e1, e2, hq, st⟩
  · dsimp only [Pt.U, Pt.locs, Pt.cells, Pt.slots] at X' e1 e2 h1 h2 h3 st hcl
    subst h1; subst h2; subst h3
    exact Or.inr ⟨q, (T.setVm vm₁).calling g' mk (Value.ref b :: As).toArray, t, U', L, E, ce, hT, X', hL, e1, e2, hq, hce, hcv, vx_cls hW₁ hcl, st⟩
theorem vx_runS (S : CallFix p m c cc nL s args Ts own) (hM : vx_Met l y ws rm Pc Qc XC mc ms free) (cw : CallB R s args own index y bytes maxL ret ws rm mc ms n ∧ (Cond.static y).before args s = true) (hp : PreS s H Pc As)
    (hg : g.method = m) (hn : As.length = n) (hsize : g.locals.size = nL) (hstack : g.stack = As.reverse ++ rest) (hW : 2 * g.monitorRoom + (rest.map fun v => v.category).sum ≤ 8) (hdg : decode cc g.pc = .ok (.invokestatic index, 3)) (hf : cells + mc ≤ R.cells ∧ slots + ms ≤ R.slots) :
    vx_Run p l e R s m args below meth c H locs cells slots mc ms g rest (Qc As.toArray) XC free := by
  have hK : vx_Back l R p e below s args y 3 8 (PreOf R mc ms Pc) (PostOf Qc mc ms free) (vx_Post XC mc ms free) := vx_callBack cw.1 hM hp.1
  obtain ⟨⟨-, -, -, -, -, -, hcode, hini, hy, hlen, hl⟩, hstt⟩ := cw
  obtain ⟨hx, hb, hml, ho, -⟩ := S
  intro T hT X
  rcases vx_callS X hx (bytes := bytes) (maxL := maxL) (ret := ret) ho hl hstt hini hcode hy hK hg (hsize.trans hml.symm) (argsL := As) (rest := rest) (fun sig h => hn.trans (hlen sig h)) hstack hW (by rw [hb]; exact hdg)
    (fun vm₁ hW₁ => ⟨hf.1, hf.2, hp.2 (T.setVm vm₁) hT hW₁⟩) with ⟨v, vm₁, ⟨U', l2, c2, s2⟩, hW₁, X', ⟨g', mk, t, L, e1, e2, hq, h1, hL, h2, h3⟩, st⟩ | ⟨q, vm₁, ⟨U', l2, c2, s2⟩, hW₁, X', ⟨g', mk, t, L, E, ce, e1, e2, hq, hce, hcv, hcl, h1, hL, h2, h3⟩, st⟩
  · dsimp only [Pt.U, Pt.locs, Pt.cells, Pt.slots] at X' e1 e2 h1 h2 h3 st
    subst h1; subst h2; subst h3
    exact Or.inl ⟨v, (T.setVm vm₁).calling g' mk As.toArray, t, U', L, hT, X', hL, e1, e2, hq, st⟩
  · dsimp only [Pt.U, Pt.locs, Pt.cells, Pt.slots] at X' e1 e2 h1 h2 h3 st hcl
    subst h1; subst h2; subst h3
    exact Or.inr ⟨q, (T.setVm vm₁).calling g' mk As.toArray, t, U', L, E, ce, hT, X', hL, e1, e2, hq, hce, hcv, vx_cls hW₁ hcl, st⟩
end Runs
section Rows
variable {p : Program} {l : Launch} {e : Env} {R : Room} {s : State} {m : MethodId} {args : Array Value} {below : List Frame} {meth : Method} {c : Code} {H : Heap} {locs : List Loc} {cells slots : Nat} {Q : State → Prop}
variable {mc ms : Nat} {free : Addr → Prop} {A0 A1 : Nat → Prop} {H0 : Heap} {a : Array Value} {pc : Nat} {ls : Array Slot} {st0 rest : List Value}
theorem vx_keep {st₀ t T' : State} {L : List Loc} (h0 : st₀.heap = H) (e1 : T'.heap = t.heap) (hS : va_S A0 H0 H locs) (hA : ∀ q, q < H.size → A1 q → A0 q) (hf : ∀ q, free q → A0 q) (hL : ∀ q ∈ L, free q.base) (hF : va_F A1 st₀ t) :
    H.size ≤ T'.heap.size ∧ (∀ q : Nat, q < H.size → ¬ A1 q → T'.heap[q]? = H[q]?) ∧ va_S A0 H0 T'.heap (locs ++ L) := by
  obtain ⟨hz, hk⟩ := hF
  rw [h0] at hz hk
  exact ⟨by rw [e1]; exact hz, fun q h1 h2 => by rw [e1]; exact hk q h1 h2,
    ⟨Nat.le_trans hS.1 (by rw [e1]; exact hz), fun q h1 h2 => by rw [e1, hk q (Nat.lt_of_lt_of_le h1 hS.1) (fun z => h2 (hA q (Nat.lt_of_lt_of_le h1 hS.1) z))]; exact hS.2.1 q h1 h2, fun q hq => by
      rcases List.mem_append.mp hq with h | h
      · exact hS.2.2 q h
      · exact hf _ (hL q h)⟩⟩
theorem vx_calli {S SX : Type} {post : Int32 → S → Prop} {px : SX → Prop} {B : S → State → Prop} {BX : String → SX → State → Prop} {AX : Nat → Prop} (hr : vx_Run p l e R s m args below meth c H locs cells slots mc ms (F0 m pc ls st0) rest (va_Qi post B A1 a) (vx_X px BX AX) free) (hS : va_S A0 H0 H locs) (hA : ∀ q, q < H.size → A1 q → A0 q) (hf : ∀ q, free q → A0 q) (hAX : ∀ q, q < H.size → AX q → A0 q)
    (kx : ∀ (E : String) (ce : Cell) (q9 : Addr) (u : SX) (t : State) (H1 : Heap) (locs1 : List Loc), t.heap = H1 → s.vm.Alike t.vm → px u → BX E u t → H.size ≤ H1.size → (∀ q : Nat, q < H.size → ¬ AX q → H1[q]? = H[q]?) → va_S A0 H0 H1 locs1 → H1[q9]? = some ce → ce.vm = .none → s.vm.findClass E = some ce.cls → vx_W p l e R s m args below meth c H1 locs1 (cells + mc) (slots + ms) Q (F0 m pc ls rest) q9)
    (kk : ∀ (r : Int32) (u : S) (t : State) (H1 : Heap) (locs1 : List Loc), t.heap = H1 → s.vm.Alike t.vm → post r u → B u t → H.size ≤ H1.size → (∀ q : Nat, q < H.size → ¬ A1 q → H1[q]? = H[q]?) → va_S A0 H0 H1 locs1 → W p l e R s m args below meth c H1 locs1 (cells + mc) (slots + ms) Q (F0 m (pc + 3) ls (.int r :: rest))) : W p l e R s m args below meth c H locs cells slots Q (F0 m pc ls st0) := by
  intro T hT X
  rcases hr T hT X with ⟨v, st₀, t, T', L, h0, X', hL, e1, e2, ⟨⟨r, u, hv, hp, hb⟩, hF⟩, st⟩ | ⟨q, st₀, t, T', L, E, ce, h0, X', hL, e1, e2, ⟨u, hp, hb, hF⟩, hce, hcv, hcl, st⟩
  · cases hv
    obtain ⟨k1, k2, k3⟩ := vx_keep h0 e1 hS hA hf hL hF
    obtain ⟨t2, a1, b1⟩ := kk r u t T'.heap (locs ++ L) e1.symm (by rw [← e2]; exact X'.warmed.alike) hp hb k1 k2 k3 T' rfl X'
    exact ⟨t2, st t2 a1, b1⟩
  · obtain ⟨k1, k2, k3⟩ := vx_keep h0 e1 hS hAX hf hL hF
    obtain ⟨t2, a1, b1⟩ := kx E ce q u t T'.heap (locs ++ L) e1.symm (by rw [← e2]; exact X'.warmed.alike) hp hb k1 k2 k3 (by rw [e1]; exact hce) hcv hcl T' rfl X'
    exact ⟨t2, st.trans a1, b1⟩
theorem vx_calll {S SX : Type} {post : Int64 → S → Prop} {px : SX → Prop} {B : S → State → Prop} {BX : String → SX → State → Prop} {AX : Nat → Prop} (hr : vx_Run p l e R s m args below meth c H locs cells slots mc ms (F0 m pc ls st0) rest (va_Ql post B A1 a) (vx_X px BX AX) free) (hS : va_S A0 H0 H locs) (hA : ∀ q, q < H.size → A1 q → A0 q) (hf : ∀ q, free q → A0 q) (hAX : ∀ q, q < H.size → AX q → A0 q)
    (kx : ∀ (E : String) (ce : Cell) (q9 : Addr) (u : SX) (t : State) (H1 : Heap) (locs1 : List Loc), t.heap = H1 → s.vm.Alike t.vm → px u → BX E u t → H.size ≤ H1.size → (∀ q : Nat, q < H.size → ¬ AX q → H1[q]? = H[q]?) → va_S A0 H0 H1 locs1 → H1[q9]? = some ce → ce.vm = .none → s.vm.findClass E = some ce.cls → vx_W p l e R s m args below meth c H1 locs1 (cells + mc) (slots + ms) Q (F0 m pc ls rest) q9)
    (kk : ∀ (r : Int64) (u : S) (t : State) (H1 : Heap) (locs1 : List Loc), t.heap = H1 → s.vm.Alike t.vm → post r u → B u t → H.size ≤ H1.size → (∀ q : Nat, q < H.size → ¬ A1 q → H1[q]? = H[q]?) → va_S A0 H0 H1 locs1 → W p l e R s m args below meth c H1 locs1 (cells + mc) (slots + ms) Q (F0 m (pc + 3) ls (.long r :: rest))) : W p l e R s m args below meth c H locs cells slots Q (F0 m pc ls st0) := by
  intro T hT X
  rcases hr T hT X with ⟨v, st₀, t, T', L, h0, X', hL, e1, e2, ⟨⟨r, u, hv, hp, hb⟩, hF⟩, st⟩ | ⟨q, st₀, t, T', L, E, ce, h0, X', hL, e1, e2, ⟨u, hp, hb, hF⟩, hce, hcv, hcl, st⟩
  · cases hv
    obtain ⟨k1, k2, k3⟩ := vx_keep h0 e1 hS hA hf hL hF
    obtain ⟨t2, a1, b1⟩ := kk r u t T'.heap (locs ++ L) e1.symm (by rw [← e2]; exact X'.warmed.alike) hp hb k1 k2 k3 T' rfl X'
    exact ⟨t2, st t2 a1, b1⟩
  · obtain ⟨k1, k2, k3⟩ := vx_keep h0 e1 hS hAX hf hL hF
    obtain ⟨t2, a1, b1⟩ := kx E ce q u t T'.heap (locs ++ L) e1.symm (by rw [← e2]; exact X'.warmed.alike) hp hb k1 k2 k3 (by rw [e1]; exact hce) hcv hcl T' rfl X'
    exact ⟨t2, st.trans a1, b1⟩
theorem vx_callf {S SX : Type} {post : UInt32 → S → Prop} {px : SX → Prop} {B : S → State → Prop} {BX : String → SX → State → Prop} {AX : Nat → Prop} (hr : vx_Run p l e R s m args below meth c H locs cells slots mc ms (F0 m pc ls st0) rest (va_Qf post B A1 a) (vx_X px BX AX) free) (hS : va_S A0 H0 H locs) (hA : ∀ q, q < H.size → A1 q → A0 q) (hf : ∀ q, free q → A0 q) (hAX : ∀ q, q < H.size → AX q → A0 q)
    (kx : ∀ (E : String) (ce : Cell) (q9 : Addr) (u : SX) (t : State) (H1 : Heap) (locs1 : List Loc), t.heap = H1 → s.vm.Alike t.vm → px u → BX E u t → H.size ≤ H1.size → (∀ q : Nat, q < H.size → ¬ AX q → H1[q]? = H[q]?) → va_S A0 H0 H1 locs1 → H1[q9]? = some ce → ce.vm = .none → s.vm.findClass E = some ce.cls → vx_W p l e R s m args below meth c H1 locs1 (cells + mc) (slots + ms) Q (F0 m pc ls rest) q9)
    (kk : ∀ (r : UInt32) (u : S) (t : State) (H1 : Heap) (locs1 : List Loc), t.heap = H1 → s.vm.Alike t.vm → post r u → B u t → H.size ≤ H1.size → (∀ q : Nat, q < H.size → ¬ A1 q → H1[q]? = H[q]?) → va_S A0 H0 H1 locs1 → W p l e R s m args below meth c H1 locs1 (cells + mc) (slots + ms) Q (F0 m (pc + 3) ls (.float r :: rest))) : W p l e R s m args below meth c H locs cells slots Q (F0 m pc ls st0) := by
  intro T hT X
  rcases hr T hT X with ⟨v, st₀, t, T', L, h0, X', hL, e1, e2, ⟨⟨r, u, hv, hp, hb⟩, hF⟩, st⟩ | ⟨q, st₀, t, T', L, E, ce, h0, X', hL, e1, e2, ⟨u, hp, hb, hF⟩, hce, hcv, hcl, st⟩
  · cases hv
    obtain ⟨k1, k2, k3⟩ := vx_keep h0 e1 hS hA hf hL hF
    obtain ⟨t2, a1, b1⟩ := kk r u t T'.heap (locs ++ L) e1.symm (by rw [← e2]; exact X'.warmed.alike) hp hb k1 k2 k3 T' rfl X'
    exact ⟨t2, st t2 a1, b1⟩
  · obtain ⟨k1, k2, k3⟩ := vx_keep h0 e1 hS hAX hf hL hF
    obtain ⟨t2, a1, b1⟩ := kx E ce q u t T'.heap (locs ++ L) e1.symm (by rw [← e2]; exact X'.warmed.alike) hp hb k1 k2 k3 (by rw [e1]; exact hce) hcv hcl T' rfl X'
    exact ⟨t2, st.trans a1, b1⟩
theorem vx_calld {S SX : Type} {post : UInt64 → S → Prop} {px : SX → Prop} {B : S → State → Prop} {BX : String → SX → State → Prop} {AX : Nat → Prop} (hr : vx_Run p l e R s m args below meth c H locs cells slots mc ms (F0 m pc ls st0) rest (va_Qd post B A1 a) (vx_X px BX AX) free) (hS : va_S A0 H0 H locs) (hA : ∀ q, q < H.size → A1 q → A0 q) (hf : ∀ q, free q → A0 q) (hAX : ∀ q, q < H.size → AX q → A0 q)
    (kx : ∀ (E : String) (ce : Cell) (q9 : Addr) (u : SX) (t : State) (H1 : Heap) (locs1 : List Loc), t.heap = H1 → s.vm.Alike t.vm → px u → BX E u t → H.size ≤ H1.size → (∀ q : Nat, q < H.size → ¬ AX q → H1[q]? = H[q]?) → va_S A0 H0 H1 locs1 → H1[q9]? = some ce → ce.vm = .none → s.vm.findClass E = some ce.cls → vx_W p l e R s m args below meth c H1 locs1 (cells + mc) (slots + ms) Q (F0 m pc ls rest) q9)
    (kk : ∀ (r : UInt64) (u : S) (t : State) (H1 : Heap) (locs1 : List Loc), t.heap = H1 → s.vm.Alike t.vm → post r u → B u t → H.size ≤ H1.size → (∀ q : Nat, q < H.size → ¬ A1 q → H1[q]? = H[q]?) → va_S A0 H0 H1 locs1 → W p l e R s m args below meth c H1 locs1 (cells + mc) (slots + ms) Q (F0 m (pc + 3) ls (.double r :: rest))) : W p l e R s m args below meth c H locs cells slots Q (F0 m pc ls st0) := by
  intro T hT X
  rcases hr T hT X with ⟨v, st₀, t, T', L, h0, X', hL, e1, e2, ⟨⟨r, u, hv, hp, hb⟩, hF⟩, st⟩ | ⟨q, st₀, t, T', L, E, ce, h0, X', hL, e1, e2, ⟨u, hp, hb, hF⟩, hce, hcv, hcl, st⟩
  · cases hv
    obtain ⟨k1, k2, k3⟩ := vx_keep h0 e1 hS hA hf hL hF
    obtain ⟨t2, a1, b1⟩ := kk r u t T'.heap (locs ++ L) e1.symm (by rw [← e2]; exact X'.warmed.alike) hp hb k1 k2 k3 T' rfl X'
    exact ⟨t2, st t2 a1, b1⟩
  · obtain ⟨k1, k2, k3⟩ := vx_keep h0 e1 hS hAX hf hL hF
    obtain ⟨t2, a1, b1⟩ := kx E ce q u t T'.heap (locs ++ L) e1.symm (by rw [← e2]; exact X'.warmed.alike) hp hb k1 k2 k3 (by rw [e1]; exact hce) hcv hcl T' rfl X'
    exact ⟨t2, st.trans a1, b1⟩
theorem vx_callv {S SX : Type} {post : S → Prop} {px : SX → Prop} {B : S → State → Prop} {BX : String → SX → State → Prop} {AX : Nat → Prop} (hr : vx_Run p l e R s m args below meth c H locs cells slots mc ms (F0 m pc ls st0) rest (va_Qv post B A1 a) (vx_X px BX AX) free) (hS : va_S A0 H0 H locs) (hA : ∀ q, q < H.size → A1 q → A0 q) (hf : ∀ q, free q → A0 q) (hAX : ∀ q, q < H.size → AX q → A0 q)
    (kx : ∀ (E : String) (ce : Cell) (q9 : Addr) (u : SX) (t : State) (H1 : Heap) (locs1 : List Loc), t.heap = H1 → s.vm.Alike t.vm → px u → BX E u t → H.size ≤ H1.size → (∀ q : Nat, q < H.size → ¬ AX q → H1[q]? = H[q]?) → va_S A0 H0 H1 locs1 → H1[q9]? = some ce → ce.vm = .none → s.vm.findClass E = some ce.cls → vx_W p l e R s m args below meth c H1 locs1 (cells + mc) (slots + ms) Q (F0 m pc ls rest) q9)
    (kk : ∀ (u : S) (t : State) (H1 : Heap) (locs1 : List Loc), t.heap = H1 → s.vm.Alike t.vm → post u → B u t → H.size ≤ H1.size → (∀ q : Nat, q < H.size → ¬ A1 q → H1[q]? = H[q]?) → va_S A0 H0 H1 locs1 → W p l e R s m args below meth c H1 locs1 (cells + mc) (slots + ms) Q (F0 m (pc + 3) ls (rest))) : W p l e R s m args below meth c H locs cells slots Q (F0 m pc ls st0) := by
  intro T hT X
  rcases hr T hT X with ⟨v, st₀, t, T', L, h0, X', hL, e1, e2, ⟨⟨u, hv, hp, hb⟩, hF⟩, st⟩ | ⟨q, st₀, t, T', L, E, ce, h0, X', hL, e1, e2, ⟨u, hp, hb, hF⟩, hce, hcv, hcl, st⟩
  · cases hv
    obtain ⟨k1, k2, k3⟩ := vx_keep h0 e1 hS hA hf hL hF
    obtain ⟨t2, a1, b1⟩ := kk u t T'.heap (locs ++ L) e1.symm (by rw [← e2]; exact X'.warmed.alike) hp hb k1 k2 k3 T' rfl X'
    exact ⟨t2, st t2 a1, b1⟩
  · obtain ⟨k1, k2, k3⟩ := vx_keep h0 e1 hS hAX hf hL hF
    obtain ⟨t2, a1, b1⟩ := kx E ce q u t T'.heap (locs ++ L) e1.symm (by rw [← e2]; exact X'.warmed.alike) hp hb k1 k2 k3 (by rw [e1]; exact hce) hcv hcl T' rfl X'
    exact ⟨t2, st.trans a1, b1⟩
end Rows
section Ends
variable {p : Program} {l : Launch} {e : Env} {R : Room} {s : State} {m : MethodId} {args : Array Value} {below : List Frame} {meth : Method} {c : Code} {H : Heap} {locs : List Loc} {cells slots : Nat} {Q : State → Prop}
variable {mc ms : Nat} {free : Addr → Prop} {A0 A1 : Nat → Prop} {H0 : Heap} {a : Array Value} {ls : Array Slot} {st0 rest : List Value}
variable {Qc : Array Value → State → Outcome → State → Prop} {XC : String → State → State → Prop}
/-- what a body that may throw owes at its end -/
def vx_MQ (below : List Frame) (Qc : Array Value → State → Outcome → State → Prop) (XC : String → State → State → Prop) (a : Array Value) (s : State) (mc ms : Nat) (free : Addr → Prop) : State → Prop := fun t =>
  ∃ o, t.status = .running ∧ Ended t below o ∧ vx_Q Qc XC mc ms free a s o t
theorem vx_ret {g : JFrame} {mc ms : Nat} (k : W p l e R s m args below meth c H locs cells slots (MQ below Qc args s mc ms free) g) : W p l e R s m args below meth c H locs cells slots (vx_MQ below Qc XC args s mc ms free) g := by
  intro T hT X
  obtain ⟨t, a1, o, b1, b2, b3, b4⟩ := k T hT X
  exact ⟨t, a1, o, b1, b2, Or.inl ⟨b3, b4⟩⟩
/-- not caught here: it goes on to the caller -/
theorem vx_widen {g : JFrame} {q : Addr} {k n : Nat} (h1 : cells ≤ k) (h2 : slots ≤ n) (kk : vx_W p l e R s m args below meth c H locs k n Q g q) : vx_W p l e R s m args below meth c H locs cells slots Q g q := fun T hT X => kk T hT (stand_widen X h1 h2)
theorem vx_out {pc : Nat} {E : String} {ce : Cell} {q : Addr} {mc ms : Nat} (hout : ∀ x ∈ c.exceptionTable.toList, covers x pc = false) (hlocks : meth.locks = false) (hcell : H[q]? = some ce) (hv : ce.vm = .none) (hcl : s.vm.findClass E = some ce.cls)
    (hx : ∀ t : State, t.heap = H → s.vm.Alike t.vm → XC E s t) (hf : ∀ z ∈ locs, free z.base) (hc : cells ≤ mc) (hs : slots ≤ ms) :
    vx_W p l e R s m args below meth c H locs cells slots (vx_MQ below Qc XC args s mc ms free) (F0 m pc ls rest) q := by
  intro T hT X
  obtain ⟨st1, hrun, hend, hW, hsm⟩ := X.leaveThrown q (g := F0 m pc ls rest) rfl rfl rfl hout hlocks
  have hcell9 : (T.setFrames (.throwing q :: below)).heap[q]? = some ce := by
    show T.heap[q]? = some ce
    rw [hT]; exact hcell
  exact ⟨_, st1, .threw q, hrun, hend, Or.inr ⟨q, rfl, E, ce, locs, hx _ hT hW.alike, hcell9, hv, hcl, hW, hsm.mono hc hs, hf⟩⟩
theorem vx_frame {U : State} {k n : Nat} (h : s.sameButNew ({ U with vm := s.vm } : State) locs k n) : s.heap.size ≤ U.heap.size ∧ ∀ q : Nat, q < s.heap.size → (∀ z ∈ locs, z.base ≠ q) → U.heap[q]? = s.heap[q]? := by
  obtain ⟨-, h2, -, -, -, h6⟩ := h
  refine ⟨h2, fun q hq hz => ?_⟩
  obtain ⟨c9, e1, e2, e3, e4⟩ := h6 q _ (Array.getElem?_eq_getElem hq)
  have hs : c9.slots = (s.heap[q]).slots := Array.ext_getElem? fun i => e4 i fun hm => hz _ hm rfl
  have h9 : c9 = s.heap[q] := by
    rw [hs] at e2
    exact e2
  have e5 : U.heap[q]? = some c9 := e1
  rw [e5, h9, Array.getElem?_eq_getElem hq]
/-- the words of a throw but the four that speak of the heap -/
def vx_no (w : Cond) : Bool := decide (w ≠ .isRef (.static Bundle.tN "UNASSIGNED_STACK" Bundle.steD)) && decide (w ≠ .isRef (.static Bundle.tN "SUPPRESSED_SENTINEL" Bundle.listD)) && decide (w ≠ .laysStatic Bundle.tN "UNASSIGNED_STACK" Bundle.steD) && decide (w ≠ .laysStatic Bundle.tN "SUPPRESSED_SENTINEL" Bundle.listD)
def vx_at0 (own : String) (ic : Nat) (X : String) (names : List String) : List Cond := (Bundle.ownAtoms0 own ic X names).filter vx_no
def vx_atS (own : String) (ic : Nat) (X : String) (names : List String) : List Cond := (Bundle.ownAtoms own ic X names).filter vx_no
/-- a word that the tables alone decide, or a good one -/
def vx_ot (w : Cond) : Bool := w.onTables || goodWord w
theorem vx_ot_at {args a' : Array Value} {s U : State} {w : Cond} (hW : s.WarmedH U.vm) (hvm : s.vm = U.vm) (hg : vx_ot w = true) (h : w.before args s = true) : w.before a' U = true := by
  simp only [vx_ot, Bool.or_eq_true] at hg
  rcases hg with hg | hg
  · exact va_tabs hg hvm h
  · exact word_at hW (good_of_word hg) h
/-- a list's words: the good ones out of the method's own list, the others by premises of their own -/
theorem vx_hat {args : Array Value} {s : State} {L B : List Cond} (h1 : ∀ w ∈ L.filter goodWord, w.before args s = true) (h2 : ∀ w ∈ L.filter (fun w => !goodWord w), w ∈ B) (h3 : ∀ w ∈ B, w.before args s = true) : ∀ w ∈ L, w.before args s = true := by
  intro w hw
  by_cases g : goodWord w = true
  · exact h1 w (List.mem_filter.mpr ⟨hw, g⟩)
  · refine h3 w (h2 w (List.mem_filter.mpr ⟨hw, ?_⟩))
    show (!goodWord w) = true
    cases hgw : goodWord w
    · rfl
    · exact absurd hgw g
theorem vx_c {args : Array Value} {s : State} {w : Cond} {B : List Cond} (h : w.before args s = true) (t : ∀ w ∈ B, w.before args s = true) : ∀ w' ∈ w :: B, w'.before args s = true := fun w' h' => (List.mem_cons.mp h').elim (fun e => by rw [e]; exact h) (t w')
theorem vx_n {args : Array Value} {s : State} : ∀ w ∈ ([] : List Cond), w.before args s = true := fun _ h => nomatch h
theorem vx_own {args : Array Value} {s : State} {L : List Cond} (h1 : ∀ w ∈ L.filter vx_no, w.before args s = true)
    (hU : (Cond.isRef (.static Bundle.tN "UNASSIGNED_STACK" Bundle.steD)).before args s = true) (hN : (Cond.isRef (.static Bundle.tN "SUPPRESSED_SENTINEL" Bundle.listD)).before args s = true)
    (lU : (Cond.laysStatic Bundle.tN "UNASSIGNED_STACK" Bundle.steD).before args s = true) (lN : (Cond.laysStatic Bundle.tN "SUPPRESSED_SENTINEL" Bundle.listD).before args s = true) : ∀ w ∈ L, w.before args s = true := by
  intro w hw
  by_cases e1 : w = .isRef (.static Bundle.tN "UNASSIGNED_STACK" Bundle.steD)
  · rw [e1]; exact hU
  · by_cases e2 : w = .isRef (.static Bundle.tN "SUPPRESSED_SENTINEL" Bundle.listD)
    · rw [e2]; exact hN
    · by_cases e3 : w = .laysStatic Bundle.tN "UNASSIGNED_STACK" Bundle.steD
      · rw [e3]; exact lU
      · by_cases e4 : w = .laysStatic Bundle.tN "SUPPRESSED_SENTINEL" Bundle.listD
        · rw [e4]; exact lN
        · exact h1 w (List.mem_filter.mpr ⟨hw, by unfold vx_no; rw [decide_eq_true e1, decide_eq_true e2, decide_eq_true e3, decide_eq_true e4]; rfl⟩)
/-- where a static field lies, its class's statics cell in H -/
def vx_L (C n d : String) (A : Nat → Prop) (U : State) (H : Heap) : Prop := ∃ (c : ClassId) (k : Class) (i : Nat) (f : Field) (a : Nat) (cell : Cell), U.vm.findClass C = some c ∧ U.fieldFound? C n d = some (c, k, i, f) ∧ f.isStatic = true ∧ k.statics = some a ∧ H[a]? = some cell ∧ cell.vm.isStatics = true ∧ cell.cls = c ∧ f.slot < cell.slots.size ∧ k.staticTypes[f.slot]? = some f.type ∧ ¬ A a
theorem vx_L.moved {C n d : String} {A : Nat → Prop} {u U : State} {H : Heap} (hvm : u.vm.Alike U.vm) (h : vx_L C n d A u H) : vx_L C n d A U H := by
  obtain ⟨c, k, i, f, a, cell, h1, h2, h3, h4, h5, h6, h7, h8, h9, h10⟩ := h
  obtain ⟨k', hi', he⟩ := State.fieldFound?_setVm hvm h2
  exact ⟨c, k', i, f, a, cell, by rw [hvm.findClass]; exact h1, hi', h3, by rw [he]; exact h4, h5, h6, h7, h8, by rw [he]; exact h9, h10⟩
theorem vx_L.kept {C n d : String} {A : Nat → Prop} {U : State} {H H1 : Heap} (h : vx_L C n d A U H) (hq : ∀ a : Nat, a < H.size → ¬ A a → H1[a]? = H[a]?) : vx_L C n d A U H1 := by
  obtain ⟨c, k, i, f, a, cell, h1, h2, h3, h4, h5, h6, h7, h8, h9, h10⟩ := h
  exact ⟨c, k, i, f, a, cell, h1, h2, h3, h4, by rw [hq a (Array.getElem?_eq_some_iff.mp h5).1 h10]; exact h5, h6, h7, h8, h9, h10⟩
theorem vx_L.narrow {C n d : String} {A B : Nat → Prop} {U : State} {H : Heap} (h : vx_L C n d A U H) (hAB : ∀ q, B q → A q) : vx_L C n d B U H := by
  obtain ⟨c, k, i, f, a, cell, h1, h2, h3, h4, h5, h6, h7, h8, h9, h10⟩ := h
  exact ⟨c, k, i, f, a, cell, h1, h2, h3, h4, h5, h6, h7, h8, h9, fun z => h10 (hAB _ z)⟩
theorem vx_L.word {C n d : String} {A : Nat → Prop} {s : State} {args : Array Value} (h : vx_L C n d A s s.heap) : (Cond.laysStatic C n d).before args s = true := by
  obtain ⟨c, k, i, f, a, cell, h1, h2, h3, h4, h5, h6, h7, h8, h9, -⟩ := h
  show (Cond.laysStatic C n d).holds args s none s [] = true
  exact Cond.laysStatic_of h1 h2 h3 h4 h5 h6 h7 h8 h9
/-- .. and what it holds: null or some reference -/
def vx_Zq (C n d : String) (A : Nat → Prop) (U : State) (H : Heap) : Prop := va_Zq C n d A U H ∧ vx_L C n d A U H
theorem vx_Zq.moved {C n d : String} {A : Nat → Prop} {u U : State} {H : Heap} (hvm : u.vm.Alike U.vm) (h : vx_Zq C n d A u H) : vx_Zq C n d A U H := ⟨va_Zq.moved hvm h.1, vx_L.moved hvm h.2⟩
theorem vx_Zq.kept {C n d : String} {A : Nat → Prop} {U : State} {H H1 : Heap} (h : vx_Zq C n d A U H) (hq : ∀ a : Nat, a < H.size → ¬ A a → H1[a]? = H[a]?) : vx_Zq C n d A U H1 := ⟨va_Zq.kept h.1 hq, vx_L.kept h.2 hq⟩
theorem vx_Zq.narrow {C n d : String} {A B : Nat → Prop} {U : State} {H : Heap} (h : vx_Zq C n d A U H) (hAB : ∀ q, B q → A q) : vx_Zq C n d B U H := ⟨va_Zq.narrow h.1 hAB, vx_L.narrow h.2 hAB⟩
theorem vx_Zqof {args : Array Value} {s : State} {C n d : String} {A : Nat → Prop} (hl : (Cond.laysStatic C n d).before args s = true) (hini : (Cond.initialized C).before args s = true) (h : (Cond.isRef (.static C n d)).before args s = true) (hA : ∀ a : Nat, a < s.heap.size → ¬ A a) : vx_Zq C n d A s s.heap := by
  refine ⟨va_Zqof hl hini h hA, ?_⟩
  obtain ⟨c, k, i, f, a, cell, h1, h2, h3, h4, h5, h6, h7, h8, h9⟩ := Cond.laysStatic_spec hl
  exact ⟨c, k, i, f, a, cell, h1, h2, h3, h4, h5, h6, h7, h8, h9, hA a (Array.getElem?_eq_some_iff.mp h5).1⟩
theorem vx_isRef {C n d : String} {v : Value} {A : Nat → Prop} {s : State} {args : Array Value} (h : va_Z C n d v A s s.heap) (hv : v.isRef = true) : (Cond.isRef (.static C n d)).before args s = true := by
  obtain ⟨cf, kf, fi, f, a, cell, h1, h2, h3, h4, h5, h6, h7, -⟩ := h
  have he : (Term.static C n d).eval args s none [] s = some v := by
    simp [Term.eval, State.fieldNamed?, h1, h2, h4, h5, h6, h7]
  simp only [Cond.before, Cond.holds, Cond.value, he]
  cases v <;> simp_all [Value.isRef]
theorem vx_isRefq {C n d : String} {A : Nat → Prop} {s : State} {args : Array Value} (h : va_Zq C n d A s s.heap) : (Cond.isRef (.static C n d)).before args s = true := by
  rcases h with h | ⟨t, h⟩
  · exact vx_isRef h rfl
  · exact vx_isRef h rfl
/-- the same frame, seen from here: as if the method were called anew in this heap -/
theorem vx_rebase {T : State} (X : Stand p l e R s m args below meth c T locs cells slots) {R' : Room} (hf : R'.frames ≤ R.frames) (hl : R'.locals ≤ R.locals) (hc : cells + R'.cells ≤ R.cells) (hs : slots + R'.slots ≤ R.slots) :
    Stand p l e R' ((T.setVm s.vm).setFrames (.invoking m args :: below)) m args below meth c T [] 0 0 := by
  have htop : (T.setVm s.vm).topJava?.isSome := X.here.top
  have hF : ((T.setVm s.vm).setFrames (.invoking m args :: below)).frames = .invoking m args :: below := State.frames_setFrames _ (State.cur_lt_of_top htop)
  obtain ⟨g₀, hg0⟩ := Option.isSome_iff_exists.mp htop
  obtain ⟨r, hr⟩ := State.topJava?_eq_some.mp hg0
  have hl9 : e.platform.stackLimits (T.setVm s.vm).me = e.platform.stackLimits s.me := X.limits
  have hb9 : (T.setVm s.vm).me.stackBytes = s.me.stackBytes := X.bytes
  refine ⟨X.admits, X.cas, X.clock, hF, ?_, X.hears, X.method, X.code, X.here, X.tail, X.warmed, ?_, ?_, ?_⟩
  · have h := X.room
    have hU : ((T.setVm s.vm).setFrames (.invoking m args :: below)).localsInUse = s.localsInUse := by
      rw [State.localsInUse_invoking hF (meth := meth) (c := c) X.method X.code, State.localsInUse_invoking X.frames X.method X.code]
    simp only [State.hasRoom, Bool.and_eq_true, decide_eq_true_eq] at h ⊢
    obtain ⟨⟨⟨⟨h1, h2, h3, h4, h5, h6⟩, h7⟩, h8⟩, h9⟩ := h
    rw [X.frames, List.length_cons] at h2 h3
    have q1 := X.heapSize
    have q2 := X.used
    simp only [hF, hU, List.length_cons, State.stackLimits_setFrames, State.stackBytes_setFrames, hl9, hb9]
    refine ⟨⟨⟨⟨by omega, by omega, by omega, by omega, by omega, h6⟩, ?_⟩, ?_⟩, X.book⟩
    · show T.heap.size + R'.cells ≤ e.platform.maxCells
      omega
    · show T.slotsUsed + R'.slots ≤ e.platform.maxSlots
      omega
  · rw [State.stackLimits_setFrames]; rfl
  · rw [State.stackBytes_setFrames]; rfl
  · refine ⟨?_, Nat.le_refl _, Nat.le_refl _, ?_, ?_, fun a c9 h9 => ⟨c9, h9, rfl, rfl, fun _ _ => rfl⟩⟩
    · obtain ⟨t, ht, -⟩ := State.frames_cons hr
      show T.setVm s.vm = { ((T.setVm s.vm).setFrames (.invoking m args :: below)).setFrames (T.setVm s.vm).frames with heap := T.heap, slotsUsed := T.slotsUsed }
      rw [State.setFrames_setFrames, State.setFrames_self ht]
      rfl
    · show T.slotsUsed = T.slotsUsed + ((T.heap.toList.drop T.heap.size).map (·.slots.size)).sum
      rw [List.drop_eq_nil_of_le (Nat.le_of_eq Array.length_toList)]
      rfl
    · show ((T.heap.toList.drop T.heap.size).map (·.slots.size)).sum ≤ 0
      rw [List.drop_eq_nil_of_le (Nat.le_of_eq Array.length_toList)]
      exact Nat.le_refl _
/-- 'throw new E()': new; dup; invokespecial; athrow -/
theorem vx_throw0 {cc : ByteArray} {pc : Nat} (hexec : p.tables.exec = Jvm.exec) (hb : c.code = cc) (hl : l.stackTraces = false) {own cls : String} {names : List String} {ik ic mc ms : Nat} {A : Nat → Prop}
    (hown : s.vm.findClass own = some m.cls) (hcls : Bundle.fit cls = true) (hnames : ∀ n ∈ names, Bundle.fit n = true)
    (hk : (Cond.classLink own ik cls).before args s = true) (hini : (Cond.initialized cls).before args s = true) (hat : ∀ w ∈ vx_at0 own ic cls names, w.before args s = true)
    (hgood : ∀ w ∈ Cond.classLink own ik cls :: Cond.initialized cls :: vx_at0 own ic cls names, vx_ot w = true)
    (hU : vx_Zq Bundle.tN "UNASSIGNED_STACK" Bundle.steD A s s.heap) (hN : vx_Zq Bundle.tN "SUPPRESSED_SENTINEL" Bundle.listD A s s.heap) (hS : va_S A s.heap H locs) (hsize : ls.size = c.maxLocals)
    (d0 : decode cc pc = .ok (.new ik, 3)) (d3 : decode cc (pc + 3) = .ok (.dup, 1)) (d4 : decode cc (pc + 4) = .ok (.invokespecial ic, 3)) (d7 : decode cc (pc + 7) = .ok (.athrow, 1))
    (hout : ∀ x ∈ c.exceptionTable.toList, covers x (pc + 7) = false)
    (hRframes : names.length + 3 < R.frames) (hRlocals : (rest.map fun v => v.category).sum + (13 * (names.length + 1) + 42) ≤ R.locals) (hRcells : cells + 1 ≤ R.cells) (hRslots : slots + 6 ≤ R.slots) (hlocks : meth.locks = false)
    (hx : ∀ t : State, s.vm.Alike t.vm → H.size ≤ t.heap.size → (∀ q : Nat, q < H.size → t.heap[q]? = H[q]?) → XC cls s t)
    (hf : ∀ z ∈ locs, free z.base) (hc : cells + 1 ≤ mc) (hs : slots + 6 ≤ ms) :
    W p l e R s m args below meth c H locs cells slots (vx_MQ below Qc XC args s mc ms free) (F0 m pc ls rest) := by
  intro T hT X
  have htr : e.platform.stackTraces = false := (show e.platform.stackTraces = l.stackTraces by rw [X.admits.platform]).trans hl
  have Y := vx_rebase X (R' := { frames := R.frames, locals := R.locals, cells := 1, slots := 6 }) (Nat.le_refl _) (Nat.le_refl _) hRcells hRslots
  obtain ⟨s', hA⟩ : ∃ z, z = (T.setVm s.vm).setFrames (.invoking m args :: below) := ⟨_, rfl⟩
  rw [← hA] at Y
  have hvm : s'.vm = s.vm := by rw [hA]; rfl
  have hhp : s'.heap = H := by rw [hA]; exact hT
  have hW0 : s.WarmedH s'.vm := by rw [hvm]; exact State.WarmedH.refl s
  have hat' : ∀ w ∈ vx_at0 own ic cls names, w.before args s' = true := fun w hw => vx_ot_at hW0 hvm.symm (hgood w (List.mem_cons_of_mem _ (List.mem_cons_of_mem _ hw))) (hat w hw)
  have hk' : (Cond.classLink own ik cls).before args s' = true := vx_ot_at hW0 hvm.symm (hgood _ List.mem_cons_self) hk
  have hini' : (Cond.initialized cls).before args s' = true := vx_ot_at hW0 hvm.symm (hgood _ (List.mem_cons_of_mem _ List.mem_cons_self)) hini
  have hU' : vx_Zq Bundle.tN "UNASSIGNED_STACK" Bundle.steD A s' s'.heap := by rw [hhp]; exact vx_Zq.moved hW0.alike (hU.kept hS.2.1)
  have hN' : vx_Zq Bundle.tN "SUPPRESSED_SENTINEL" Bundle.listD A s' s'.heap := by rw [hhp]; exact vx_Zq.moved hW0.alike (hN.kept hS.2.1)
  have h : ∀ w ∈ Bundle.ownAtoms0 own ic cls names, w.before args s' = true := vx_own hat' (vx_isRefq hU'.1) (vx_isRefq hN'.1) hU'.2.word hN'.2.word
  have hown' : s'.vm.findClass own = some m.cls := by rw [hvm]; exact hown
  have hins : (Cond.instantiable cls 6).before args s' = true := h _ (by simp [Bundle.ownAtoms0])
  obtain ⟨vm₁, cX, kX, hfX, hkX, -, -, X₁, st1⟩ := Y.newCold hexec (own := own) (C := cls) (index := ik) (n := 6) hown' hk' hins hini'
    (g := F0 m pc ls rest) rfl (by rw [hb]; exact d0) (Nat.le_refl _) (Nat.le_refl _)
  generalize hT1 : (T.setVm vm₁).pushCell { cls := cX, slots := kX.instanceTypes.map defaultValue, vm := .none } = T1 at X₁ st1
  have hcat : (Value.ref T.heap.size).category = 1 := rfl
  have hcellA : T1.heap[T.heap.size]? = some (freshCell cX kX) := by rw [← hT1]; exact State.heap_pushCell_size _ _
  have d3' : decode c.code (pc + 3) = .ok (.dup, 1) := by rw [hb]; exact d3
  obtain ⟨U, hsteps, hrun, hend, hW, hsame, ce, hce, hO⟩ := X₁.ctorThrow0 hexec htr (own := own) (cls := cls) (names := names) (ic := ic) hown' hcls hnames h (fun x hx => nomatch hx) hfX hkX hcellA (by rw [hhp, hT]; exact Nat.le_refl _)
    (g := { method := m, pc := pc + 4, locals := ls, stack := .ref T.heap.size :: .ref T.heap.size :: rest, locked := none }) rfl hsize rfl rfl (rest := rest) rfl
    (by rw [hb]; exact d4) (by rw [hb]; exact d7) hout hRframes (by simp only [List.map_cons, List.sum_cons, hcat]; omega) hlocks
  obtain ⟨f1, f2⟩ := vx_frame hsame
  rw [hhp] at f1 f2
  have hWs : s.WarmedH U.vm := State.WarmedH.trans hW0 hW
  have hcl : s.vm.findClass cls = some ce.cls := by
    have h9 := hO.cls
    rw [hvm] at h9
    exact h9
  have hall : s.sameButNew ({ U with vm := s.vm } : State) locs mc ms := by
    subst hA
    obtain ⟨e1, e2⟩ := hsame
    rw [State.setFrames_setFrames] at e1
    have h2 : (T.setVm s.vm).sameButNew ({ U with vm := s.vm } : State) [] (0 + 1) (0 + 6) := ⟨e1, e2⟩
    have h3 := X.same.trans h2
    rw [List.append_nil] at h3
    exact h3.mono hc hs
  refine ⟨U, ?_, .threw T.heap.size, hrun, hend, Or.inr ⟨T.heap.size, rfl, cls, ce, locs, hx U hWs.alike f1 (fun q hq => f2 q hq (fun z hz => nomatch hz)), hce, hO.vm, hcl, hWs, hall, hf⟩⟩
  refine st1 _ ?_
  show Steps p.tables e below (T1.setTop { method := m, pc := pc + 3, locals := ls, stack := .ref T.heap.size :: rest, locked := none }) _
  jvm_step X₁.here [X₁.here.top, hexec, d3', Value.category]
  exact hsteps
/-- 'throw new E("text")': new; dup; ldc; invokespecial; athrow -/
theorem vx_throwS {cc : ByteArray} {pc : Nat} (hexec : p.tables.exec = Jvm.exec) (hb : c.code = cc) (hl : l.stackTraces = false) {own cls text : String} {names : List String} {ik is ic mc ms sa : Nat} {A : Nat → Prop}
    (hown : s.vm.findClass own = some m.cls) (hcls : Bundle.fit cls = true) (hnames : ∀ n ∈ names, Bundle.fit n = true)
    (hk : (Cond.classLink own ik cls).before args s = true) (hini : (Cond.initialized cls).before args s = true) (hstr : vk_R own is text sa s) (hat : ∀ w ∈ vx_atS own ic cls names, w.before args s = true)
    (hgood : ∀ w ∈ Cond.classLink own ik cls :: Cond.initialized cls :: vx_atS own ic cls names, vx_ot w = true)
    (hU : vx_Zq Bundle.tN "UNASSIGNED_STACK" Bundle.steD A s s.heap) (hN : vx_Zq Bundle.tN "SUPPRESSED_SENTINEL" Bundle.listD A s s.heap) (hS : va_S A s.heap H locs) (hsize : ls.size = c.maxLocals)
    (d0 : decode cc pc = .ok (.new ik, 3)) (d3 : decode cc (pc + 3) = .ok (.dup, 1)) (d4 : decode cc (pc + 4) = .ok (.ldc is, 2)) (d6 : decode cc (pc + 6) = .ok (.invokespecial ic, 3)) (d9 : decode cc (pc + 9) = .ok (.athrow, 1))
    (hout : ∀ x ∈ c.exceptionTable.toList, covers x (pc + 9) = false)
    (hRframes : names.length + 3 < R.frames) (hRlocals : (rest.map fun v => v.category).sum + (13 * (names.length + 1) + 43) ≤ R.locals) (hRcells : cells + 1 ≤ R.cells) (hRslots : slots + 6 ≤ R.slots) (hlocks : meth.locks = false)
    (hx : ∀ t : State, s.vm.Alike t.vm → H.size ≤ t.heap.size → (∀ q : Nat, q < H.size → t.heap[q]? = H[q]?) → XC cls s t)
    (hf : ∀ z ∈ locs, free z.base) (hc : cells + 1 ≤ mc) (hs : slots + 6 ≤ ms) :
    W p l e R s m args below meth c H locs cells slots (vx_MQ below Qc XC args s mc ms free) (F0 m pc ls rest) := by
  intro T hT X
  have htr : e.platform.stackTraces = false := (show e.platform.stackTraces = l.stackTraces by rw [X.admits.platform]).trans hl
  have Y := vx_rebase X (R' := { frames := R.frames, locals := R.locals, cells := 1, slots := 6 }) (Nat.le_refl _) (Nat.le_refl _) hRcells hRslots
  obtain ⟨s', hA⟩ : ∃ z, z = (T.setVm s.vm).setFrames (.invoking m args :: below) := ⟨_, rfl⟩
  rw [← hA] at Y
  have hvm : s'.vm = s.vm := by rw [hA]; rfl
  have hhp : s'.heap = H := by rw [hA]; exact hT
  have hW0 : s.WarmedH s'.vm := by rw [hvm]; exact State.WarmedH.refl s
  have hat' : ∀ w ∈ vx_atS own ic cls names, w.before args s' = true := fun w hw => vx_ot_at hW0 hvm.symm (hgood w (List.mem_cons_of_mem _ (List.mem_cons_of_mem _ hw))) (hat w hw)
  have hk' : (Cond.classLink own ik cls).before args s' = true := vx_ot_at hW0 hvm.symm (hgood _ List.mem_cons_self) hk
  have hini' : (Cond.initialized cls).before args s' = true := vx_ot_at hW0 hvm.symm (hgood _ (List.mem_cons_of_mem _ List.mem_cons_self)) hini
  have hU' : vx_Zq Bundle.tN "UNASSIGNED_STACK" Bundle.steD A s' s'.heap := by rw [hhp]; exact vx_Zq.moved hW0.alike (hU.kept hS.2.1)
  have hN' : vx_Zq Bundle.tN "SUPPRESSED_SENTINEL" Bundle.listD A s' s'.heap := by rw [hhp]; exact vx_Zq.moved hW0.alike (hN.kept hS.2.1)
  have h : ∀ w ∈ Bundle.ownAtoms own ic cls names, w.before args s' = true := vx_own hat' (vx_isRefq hU'.1) (vx_isRefq hN'.1) hU'.2.word hN'.2.word
  have hown' : s'.vm.findClass own = some m.cls := by rw [hvm]; exact hown
  have hins : (Cond.instantiable cls 6).before args s' = true := h _ (by simp [Bundle.ownAtoms])
  obtain ⟨vm₁, cX, kX, hfX, hkX, -, -, X₁, st1⟩ := Y.newCold hexec (own := own) (C := cls) (index := ik) (n := 6) hown' hk' hins hini'
    (g := F0 m pc ls rest) rfl (by rw [hb]; exact d0) (Nat.le_refl _) (Nat.le_refl _)
  generalize hT1 : (T.setVm vm₁).pushCell { cls := cX, slots := kX.instanceTypes.map defaultValue, vm := .none } = T1 at X₁ st1
  have hcat : (Value.ref T.heap.size).category = 1 := rfl
  have hcellA : T1.heap[T.heap.size]? = some (freshCell cX kX) := by rw [← hT1]; exact State.heap_pushCell_size _ _
  have d3' : decode c.code (pc + 3) = .ok (.dup, 1) := by rw [hb]; exact d3
  have d4' : decode c.code (pc + 4) = .ok (.ldc is, 2) := by rw [hb]; exact d4
  have hstr' : vk_R own is text sa s' := vk_R.warm hW0 hstr
  obtain ⟨U, hsteps, hrun, hend, hW, hsame, ce, hce, hO⟩ := X₁.ctorThrowS hexec htr (own := own) (cls := cls) (names := names) (ic := ic) hown' hcls hnames h (fun x hx => nomatch hx) hfX hkX hcellA (by rw [hhp, hT]; exact Nat.le_refl _) (msg := .ref sa) rfl
    (g := { method := m, pc := pc + 6, locals := ls, stack := .ref sa :: .ref T.heap.size :: .ref T.heap.size :: rest, locked := none }) rfl hsize rfl rfl (rest := rest) rfl
    (by rw [hb]; exact d6) (by rw [hb]; exact d9) hout hRframes (by simp only [List.map_cons, List.sum_cons, hcat]; omega) hlocks
  obtain ⟨f1, f2⟩ := vx_frame hsame
  rw [hhp] at f1 f2
  have hWs : s.WarmedH U.vm := State.WarmedH.trans hW0 hW
  have hcl : s.vm.findClass cls = some ce.cls := by
    have h9 := hO.cls
    rw [hvm] at h9
    exact h9
  have hall : s.sameButNew ({ U with vm := s.vm } : State) locs mc ms := by
    subst hA
    obtain ⟨e1, e2⟩ := hsame
    rw [State.setFrames_setFrames] at e1
    have h2 : (T.setVm s.vm).sameButNew ({ U with vm := s.vm } : State) [] (0 + 1) (0 + 6) := ⟨e1, e2⟩
    have h3 := X.same.trans h2
    rw [List.append_nil] at h3
    exact h3.mono hc hs
  refine ⟨U, ?_, .threw T.heap.size, hrun, hend, Or.inr ⟨T.heap.size, rfl, cls, ce, locs, hx U hWs.alike f1 (fun q hq => f2 q hq (fun z hz => nomatch hz)), hce, hO.vm, hcl, hWs, hall, hf⟩⟩
  refine st1 _ ?_
  show Steps p.tables e below (T1.setTop { method := m, pc := pc + 3, locals := ls, stack := .ref T.heap.size :: rest, locked := none }) _
  jvm_step X₁.here [X₁.here.top, hexec, d3', Value.category]
  exact X₁.ldcString hexec (own := own) (text := text) (index := is) (a := sa) hown' hstr'.1 hstr'.2
    (g := { method := m, pc := pc + 4, locals := ls, stack := .ref T.heap.size :: .ref T.heap.size :: rest, locked := none }) rfl d4' _ hsteps
/-- 'throw new E("text")', the text by a wide index -/
theorem vx_throwSW {cc : ByteArray} {pc : Nat} (hexec : p.tables.exec = Jvm.exec) (hb : c.code = cc) (hl : l.stackTraces = false) {own cls text : String} {names : List String} {ik is ic mc ms sa : Nat} {A : Nat → Prop}
    (hown : s.vm.findClass own = some m.cls) (hcls : Bundle.fit cls = true) (hnames : ∀ n ∈ names, Bundle.fit n = true)
    (hk : (Cond.classLink own ik cls).before args s = true) (hini : (Cond.initialized cls).before args s = true) (hstr : vk_R own is text sa s) (hat : ∀ w ∈ vx_atS own ic cls names, w.before args s = true)
    (hgood : ∀ w ∈ Cond.classLink own ik cls :: Cond.initialized cls :: vx_atS own ic cls names, vx_ot w = true)
    (hU : vx_Zq Bundle.tN "UNASSIGNED_STACK" Bundle.steD A s s.heap) (hN : vx_Zq Bundle.tN "SUPPRESSED_SENTINEL" Bundle.listD A s s.heap) (hS : va_S A s.heap H locs) (hsize : ls.size = c.maxLocals)
    (d0 : decode cc pc = .ok (.new ik, 3)) (d3 : decode cc (pc + 3) = .ok (.dup, 1)) (d4 : decode cc (pc + 4) = .ok (.ldc_w is, 3)) (d7 : decode cc (pc + 7) = .ok (.invokespecial ic, 3)) (d10 : decode cc (pc + 10) = .ok (.athrow, 1))
    (hout : ∀ x ∈ c.exceptionTable.toList, covers x (pc + 10) = false)
    (hRframes : names.length + 3 < R.frames) (hRlocals : (rest.map fun v => v.category).sum + (13 * (names.length + 1) + 43) ≤ R.locals) (hRcells : cells + 1 ≤ R.cells) (hRslots : slots + 6 ≤ R.slots) (hlocks : meth.locks = false)
    (hx : ∀ t : State, s.vm.Alike t.vm → H.size ≤ t.heap.size → (∀ q : Nat, q < H.size → t.heap[q]? = H[q]?) → XC cls s t)
    (hf : ∀ z ∈ locs, free z.base) (hc : cells + 1 ≤ mc) (hs : slots + 6 ≤ ms) :
    W p l e R s m args below meth c H locs cells slots (vx_MQ below Qc XC args s mc ms free) (F0 m pc ls rest) := by
  intro T hT X
  have htr : e.platform.stackTraces = false := (show e.platform.stackTraces = l.stackTraces by rw [X.admits.platform]).trans hl
  have Y := vx_rebase X (R' := { frames := R.frames, locals := R.locals, cells := 1, slots := 6 }) (Nat.le_refl _) (Nat.le_refl _) hRcells hRslots
  obtain ⟨s', hA⟩ : ∃ z, z = (T.setVm s.vm).setFrames (.invoking m args :: below) := ⟨_, rfl⟩
  rw [← hA] at Y
  have hvm : s'.vm = s.vm := by rw [hA]; rfl
  have hhp : s'.heap = H := by rw [hA]; exact hT
  have hW0 : s.WarmedH s'.vm := by rw [hvm]; exact State.WarmedH.refl s
  have hat' : ∀ w ∈ vx_atS own ic cls names, w.before args s' = true := fun w hw => vx_ot_at hW0 hvm.symm (hgood w (List.mem_cons_of_mem _ (List.mem_cons_of_mem _ hw))) (hat w hw)
  have hk' : (Cond.classLink own ik cls).before args s' = true := vx_ot_at hW0 hvm.symm (hgood _ List.mem_cons_self) hk
  have hini' : (Cond.initialized cls).before args s' = true := vx_ot_at hW0 hvm.symm (hgood _ (List.mem_cons_of_mem _ List.mem_cons_self)) hini
  have hU' : vx_Zq Bundle.tN "UNASSIGNED_STACK" Bundle.steD A s' s'.heap := by rw [hhp]; exact vx_Zq.moved hW0.alike (hU.kept hS.2.1)
  have hN' : vx_Zq Bundle.tN "SUPPRESSED_SENTINEL" Bundle.listD A s' s'.heap := by rw [hhp]; exact vx_Zq.moved hW0.alike (hN.kept hS.2.1)
  have h : ∀ w ∈ Bundle.ownAtoms own ic cls names, w.before args s' = true := vx_own hat' (vx_isRefq hU'.1) (vx_isRefq hN'.1) hU'.2.word hN'.2.word
  have hown' : s'.vm.findClass own = some m.cls := by rw [hvm]; exact hown
  have hins : (Cond.instantiable cls 6).before args s' = true := h _ (by simp [Bundle.ownAtoms])
  obtain ⟨vm₁, cX, kX, hfX, hkX, -, -, X₁, st1⟩ := Y.newCold hexec (own := own) (C := cls) (index := ik) (n := 6) hown' hk' hins hini'
    (g := F0 m pc ls rest) rfl (by rw [hb]; exact d0) (Nat.le_refl _) (Nat.le_refl _)
  generalize hT1 : (T.setVm vm₁).pushCell { cls := cX, slots := kX.instanceTypes.map defaultValue, vm := .none } = T1 at X₁ st1
  have hcat : (Value.ref T.heap.size).category = 1 := rfl
  have hcellA : T1.heap[T.heap.size]? = some (freshCell cX kX) := by rw [← hT1]; exact State.heap_pushCell_size _ _
  have d3' : decode c.code (pc + 3) = .ok (.dup, 1) := by rw [hb]; exact d3
  have d4' : decode c.code (pc + 4) = .ok (.ldc_w is, 3) := by rw [hb]; exact d4
  have hstr' : vk_R own is text sa s' := vk_R.warm hW0 hstr
  obtain ⟨U, hsteps, hrun, hend, hW, hsame, ce, hce, hO⟩ := X₁.ctorThrowS hexec htr (own := own) (cls := cls) (names := names) (ic := ic) hown' hcls hnames h (fun x hx => nomatch hx) hfX hkX hcellA (by rw [hhp, hT]; exact Nat.le_refl _) (msg := .ref sa) rfl
    (g := { method := m, pc := pc + 7, locals := ls, stack := .ref sa :: .ref T.heap.size :: .ref T.heap.size :: rest, locked := none }) rfl hsize rfl rfl (rest := rest) rfl
    (by rw [hb]; exact d7) (by rw [hb]; exact d10) hout hRframes (by simp only [List.map_cons, List.sum_cons, hcat]; omega) hlocks
  obtain ⟨f1, f2⟩ := vx_frame hsame
  rw [hhp] at f1 f2
  have hWs : s.WarmedH U.vm := State.WarmedH.trans hW0 hW
  have hcl : s.vm.findClass cls = some ce.cls := by
    have h9 := hO.cls
    rw [hvm] at h9
    exact h9
  have hall : s.sameButNew ({ U with vm := s.vm } : State) locs mc ms := by
    subst hA
    obtain ⟨e1, e2⟩ := hsame
    rw [State.setFrames_setFrames] at e1
    have h2 : (T.setVm s.vm).sameButNew ({ U with vm := s.vm } : State) [] (0 + 1) (0 + 6) := ⟨e1, e2⟩
    have h3 := X.same.trans h2
    rw [List.append_nil] at h3
    exact h3.mono hc hs
  refine ⟨U, ?_, .threw T.heap.size, hrun, hend, Or.inr ⟨T.heap.size, rfl, cls, ce, locs, hx U hWs.alike f1 (fun q hq => f2 q hq (fun z hz => nomatch hz)), hce, hO.vm, hcl, hWs, hall, hf⟩⟩
  refine st1 _ ?_
  show Steps p.tables e below (T1.setTop { method := m, pc := pc + 3, locals := ls, stack := .ref T.heap.size :: rest, locked := none }) _
  jvm_step X₁.here [X₁.here.top, hexec, d3', Value.category]
  exact X₁.ldcStringW hexec (own := own) (text := text) (index := is) (a := sa) hown' hstr'.1 hstr'.2
    (g := { method := m, pc := pc + 4, locals := ls, stack := .ref T.heap.size :: .ref T.heap.size :: rest, locked := none }) rfl d4' _ hsteps
end Ends
section Bodies
variable {l : Launch}
theorem vx_ofW {y : MethodName} {ws ws' : List Cond} {rm : Room} {Pc : Array Value → State → Prop} {Qc : Array Value → State → Outcome → State → Prop} {XC : String → State → State → Prop} {mc ms : Nat} {free : Addr → Prop} {cc : ByteArray} {maxL : Nat} {ret : Option FieldType}
    (hy : plainName y.cls = true) (hw : ws = Cond.code y cc maxL ret :: ws')
    (body : ∀ p e s m args below meth c s₁, BodyLoose p l y (headSpec ws rm) cc maxL ret e s m args below meth c s₁ → c.maxLocals = maxL → (∀ x ∈ c.exceptionTable.toList, False) → Pc args s →
      W p l e (headSpec ws rm).room s m args below meth c s.heap [] 0 0 (vx_MQ below Qc XC args s mc ms free) (entryFrame m args maxL)) : vx_Met l y ws rm Pc Qc XC mc ms free := by
  refine MetFree.of_bodyS (code := cc) (maxLocals := maxL) (ret := ret) hy ?_ ?_
  · intro args s m h hn
    obtain ⟨meth, c, h1, h2, h3, h4, h5, h6, -, -⟩ := Cond.code_spec hn (atoms_spec (ws := ws) h _ (by rw [hw]; exact List.mem_cons_self))
    exact ⟨meth, c, h1, h2, h3, h4, h5, h6⟩
  · intro p e s m args below meth c s₁ B hml hP _
    have hh0 : s₁.heap = s.heap := by rw [B.state]; rfl
    have ht : ∀ x ∈ c.exceptionTable.toList, False := by
      obtain ⟨meth9, c9, h1, h2, -, -, -, -, h7, -⟩ := Cond.code_spec B.named (atoms_spec (ws := ws) B.pre _ (by rw [hw]; exact List.mem_cons_self))
      cases Option.some.inj (h1.symm.trans B.method)
      cases Option.some.inj (h2.symm.trans (Stand.of_body B).code)
      intro x hx
      rw [Array.isEmpty_iff.mp h7] at hx
      cases hx
    obtain ⟨t, a1, o, b1, b2, b3⟩ := body p e s m args below meth c s₁ B hml ht hP s₁ hh0 (Stand.of_body B)
    exact ⟨t, o, a1, b1, b2, b3⟩
/-- the table of a body with handlers -/
theorem vx_table {p : Program} {x y : MethodName} {S : Spec} {cc bytes : ByteArray} {maxL maxL' : Nat} {ret ret' : Option FieldType} {e : Env} {s s₁ : State} {m : MethodId} {args : Array Value} {below : List Frame} {meth : Method} {c : Code} {hh : List (Nat × Nat × Nat × Nat)}
    (B : BodyLoose p l y S cc maxL ret e s m args below meth c s₁) (h : (Cond.codeWith y bytes maxL' ret' hh).before args s = true) : c.exceptionTable.toList = tableOf hh := by
  obtain ⟨m9, meth9, c9, hn9, h1, h2, -, -, h6, -⟩ := Cond.codeWith_spec h
  cases Option.some.inj (hn9.symm.trans B.named)
  cases Option.some.inj (h1.symm.trans B.method)
  cases Option.some.inj (h2.symm.trans (Stand.of_body B).code)
  rw [← h6, table_eq]
end Bodies
end VXA
/-! ===== END ===== -/
/-! ===== BEGIN a static call of a method with an exception table ===== -/
section VXS
variable {p : Program} {l : Launch} {e : Env} {R : Room} {s : State} {m : MethodId} {args : Array Value} {below : List Frame} {meth : Method} {c : Code} {T : State} {H : Heap} {locs : List Loc} {cells slots : Nat}
abbrev vx_CSW (R : Room) (s : State) (args : Array Value) (own : String) (index : Nat) (y : MethodName) (bytes : ByteArray) (maxL : Nat) (ret : Option FieldType) (hh : List (Nat × Nat × Nat × Nat)) (ws : List Cond) (rm : Room) (mc ms n : Nat) : Prop :=
  (rm.cells = mc ∧ rm.slots = ms ∧ rm.frames + 1 ≤ R.frames ∧ 8 + (maxL + 11) + rm.locals ≤ R.locals ∧ (∀ w ∈ ws, ∀ (a' : Array Value) (U : State), s.WarmedH U.vm → w.before a' U = true) ∧ Cond.codeWith y bytes maxL ret hh ∈ ws) ∧
  (Cond.codeWith y bytes maxL ret hh).before args s = true ∧ (Cond.initialized y.cls).before args s = true ∧ (y.cls ≠ "java/lang/invoke/MethodHandle" ∧ y.cls ≠ "java/lang/invoke/VarHandle") ∧
  (∀ sig, parseMethodDescriptor y.desc = some sig → n = sig.parameters.length) ∧ (Cond.methodLink own index y).before args s = true ∧ (Cond.static y).before args s = true
theorem vx_cwSW {own : String} {index maxL mc ms : Nat} {y : MethodName} {bytes : ByteArray} {ret : Option FieldType} {hh : List (Nat × Nat × Nat × Nat)} {Ts ws ws' : List Cond} {rm : Room} (n : Nat) (ht : ∀ w ∈ Ts, w.before args s = true) (hT : GoodIn Ts (va_wsS own index y ws)) (hw : ws = Cond.codeWith y bytes maxL ret hh :: ws') (hrc : rm.cells = mc) (hrs : rm.slots = ms)
    (hd : y.cls ≠ "java/lang/invoke/MethodHandle" ∧ y.cls ≠ "java/lang/invoke/VarHandle" ∧ (parseMethodDescriptor y.desc).map (fun d => d.parameters.length) = some n) (hR : rm.frames + 1 ≤ R.frames ∧ 8 + (maxL + 11) + rm.locals ≤ R.locals) :
    vx_CSW R s args own index y bytes maxL ret hh ws rm mc ms n := by
  have ok : ∀ w ∈ va_wsS own index y ws, w.before args s = true := fun w h => ht w (hT w h).1
  have hG : GoodIn Ts ws := fun w h => hT w (by unfold va_wsS; exact List.mem_append_right _ h)
  have hc : Cond.codeWith y bytes maxL ret hh ∈ ws := by rw [hw]; exact List.mem_cons_self
  refine ⟨⟨hrc, hrs, hR.1, hR.2, pay_in ht hG, hc⟩, ht _ (hG _ hc).1, ok _ (by simp [va_wsS]), ⟨hd.1, hd.2.1⟩, fun sig h => ?_, ok _ (by simp [va_wsS]), ok _ (by simp [va_wsS])⟩
  have h2 := hd.2.2
  rw [h] at h2
  exact (Option.some.inj h2).symm
theorem vx_callSW (X : Stand p l e R s m args below meth c T locs cells slots) (hexec : p.tables.exec = Jvm.exec) {own : String} {index : Nat} {y : MethodName} {bytes : ByteArray} {maxL : Nat} {ret : Option FieldType} {hh : List (Nat × Nat × Nat × Nat)}
    (hown : s.vm.findClass own = some m.cls) (hlink : (Cond.methodLink own index y).before args s = true) (hstat : (Cond.static y).before args s = true) (hinit : (Cond.initialized y.cls).before args s = true)
    (hcode : (Cond.codeWith y bytes maxL ret hh).before args s = true) (hy : y.cls ≠ "java/lang/invoke/MethodHandle" ∧ y.cls ≠ "java/lang/invoke/VarHandle")
    {W9 : Nat} {Pre : Pt → Array Value → Prop} {Post : Pt → Array Value → Option Value → Pt → Prop} (hK : Back l R p e below s args y 3 W9 Pre Post)
    {g : JFrame} (hg : g.method = m) (hsize : g.locals.size = c.maxLocals) {argsL rest : List Value} (hlen : ∀ sig, parseMethodDescriptor y.desc = some sig → argsL.length = sig.parameters.length)
    (hstack : g.stack = argsL.reverse ++ rest) (hW : 2 * g.monitorRoom + (rest.map fun v => v.category).sum ≤ W9) (hdg : decode c.code g.pc = .ok (.invokestatic index, 3))
    (hpre : ∀ vm₁, s.WarmedH vm₁ → Pre ⟨T.setVm vm₁, locs, cells, slots⟩ argsL.toArray) :
    ∃ (v : Option Value) (vm₁ : Vm) (B : Pt), s.WarmedH vm₁ ∧ Stand p l e R s m args below meth c B.U B.locs B.cells B.slots ∧ Post ⟨T.setVm vm₁, locs, cells, slots⟩ argsL.toArray v B ∧
      ∀ target, Steps p.tables e below (B.U.setTop { g with pc := g.pc + 3, stack := v.toList ++ rest }) target → Steps p.tables e below (T.setTop g) target := by
  obtain ⟨mk, methM, cM, hnamed, hmethM, -, -, -, -, -, -, hsigM⟩ := Cond.codeWith_spec hcode
  have hstatic : methM.isStatic = true := Cond.static_spec hnamed hmethM hstat
  obtain ⟨kP, hkP, -⟩ := className_of_methodNamed hnamed
  have hinitP : kP.init = .initialized := Cond.initialized_spec (findClass_of_methodNamed hnamed) hkP hinit
  obtain ⟨vm₁, X₁, hstep₁⟩ := X.invokestatic hexec hown hlink hnamed hmethM hstatic hkP hinitP hy (g := g) hg (argsL := argsL) (rest := rest) (hlen _ hsigM) hstack hdg
  obtain ⟨v, B, X', hpost, hsteps⟩ := hK m meth c ⟨T.setVm vm₁, locs, cells, slots⟩ { g with stack := rest } (.invokestatic index) mk argsL.toArray X₁ hg hsize hdg hW (X₁.named hnamed) (hpre vm₁ X₁.warmed)
  exact ⟨v, vm₁, B, X₁.warmed, X', hpost, fun target h => hstep₁ _ fun acts => by rw [doInvoke_state]; exact hsteps.trans h⟩
theorem vx_runSW {y : MethodName} {bytes cc : ByteArray} {maxL nL mc ms n index : Nat} {ret : Option FieldType} {hh : List (Nat × Nat × Nat × Nat)} {ws : List Cond} {rm : Room} {Pc : Array Value → State → Prop} {Qc : Array Value → State → Outcome → State → Prop} {free : Addr → Prop} {Ts : List Cond} {own : String} {As rest : List Value} {g : JFrame}
    (S : CallFix p m c cc nL s args Ts own) (hM : Met l y ws rm Pc Qc mc ms free) (cw : vx_CSW R s args own index y bytes maxL ret hh ws rm mc ms n) (hp : PreS s H Pc As)
    (hg : g.method = m) (hn : As.length = n) (hsize : g.locals.size = nL) (hstack : g.stack = As.reverse ++ rest) (hW : 2 * g.monitorRoom + (rest.map fun v => v.category).sum ≤ 8) (hdg : decode cc g.pc = .ok (.invokestatic index, 3)) (hf : cells + mc ≤ R.cells ∧ slots + ms ≤ R.slots) :
    va_Run p l e R s m args below meth c H locs cells slots mc ms g rest (Qc As.toArray) (free) := by
  obtain ⟨⟨hrc, hrs, hfr, hlo, hws, hcw⟩, hcode, hini, hy, hlen, hl, hstt⟩ := cw
  have hK : Back l R p e below s args y 3 8 (PreOf R mc ms Pc) (PostOf Qc mc ms free) := va_backW (hh := hh) (bytes := bytes) (maxL := maxL) (ret := ret) hM hp.1 hrc hrs hfr hlo hws hcw (fun a' U hW => word_at hW (Or.inl (by first | rfl | simp [Cond.onTables, Cond.keeps, Cond.steady])) hini)
  obtain ⟨hx, hb, hml, ho, -⟩ := S
  intro T hT X
  obtain ⟨v, vm₁, ⟨U', l2, c2, s2⟩, hW₁, X', ⟨g', mk, t, L, e1, e2, hq, h1, hL, h2, h3⟩, st⟩ := vx_callSW X hx (hh := hh) (bytes := bytes) (maxL := maxL) (ret := ret) ho hl hstt hini hcode hy hK hg (hsize.trans hml.symm) (argsL := As) (rest := rest) (fun sig h => hn.trans (hlen sig h)) hstack hW (by rw [hb]; exact hdg)
    (fun vm₁ hW₁ => ⟨hf.1, hf.2, hp.2 (T.setVm vm₁) hT hW₁⟩)
  dsimp only [Pt.U, Pt.locs, Pt.cells, Pt.slots] at X' e1 e2 h1 h2 h3 st
  subst h1; subst h2; subst h3
  exact ⟨v, (T.setVm vm₁).calling g' mk As.toArray, t, U', L, hT, X', hL, e1, e2, hq, st⟩
/-- a thing of a world lies in the heap -/
theorem vx_lt {D : va_G} {cl : List vw_C} {ws : va_W} {H1 : Heap} (h : va_P D cl ws H1) {k : Nat} {q : Nat × va_E} (hk : ws[k]? = some q) : q.1 < H1.size := (h k q hk).lt
end VXS
/-! ===== END ===== -/
/-! ===== BEGIN methods with a table of their own: called by a name, returning or throwing ===== -/
section VXH
/-! vx_backW, vx_callVX, vx_callSX, vx_callVW, vx_runVW, vx_runVX, vx_runSX, vx_ofWH follow the same proofs as their sisters above (Free/Laws.lean, Shelf42/LK1.lean); vx_outP calls Shelf42/NT130.lean (outThrough). -/
section
variable {l : Launch} {R : Room} {p : Program} {e : Env} {below : List Frame} {s : State} {sargs : Array Value} {y : MethodName} {len W9 : Nat}
theorem vx_backW {ws : List Cond} {rm : Room} {Pc : Array Value → State → Prop} {Qc : Array Value → State → Outcome → State → Prop} {XC : String → State → State → Prop} {mc ms : Nat} {free : Addr → Prop} {bytes : ByteArray} {maxL : Nat} {ret : Option FieldType} {hh : List (Nat × Nat × Nat × Nat)}
    (hM : vx_Met l y ws rm Pc Qc XC mc ms free) (hblind : FrameBlind Pc) (hrc : rm.cells = mc) (hrs : rm.slots = ms)
    (hframes : rm.frames + 1 ≤ R.frames) (hlocals : W9 + (maxL + 11) + rm.locals ≤ R.locals)
    (hws : ∀ w ∈ ws, ∀ a' U, s.WarmedH U.vm → w.before a' U = true) (hcode : Cond.codeWith y bytes maxL ret hh ∈ ws) (hinit : ∀ a' U, s.WarmedH U.vm → (Cond.initialized y.cls).before a' U = true) :
    vx_Back l R p e below s sargs y len W9 (PreOf R mc ms Pc) (PostOf Qc mc ms free) (vx_Post XC mc ms free) := by
  intro m meth c A g ig mk a X hg hsize hdg hW hn hp
  have h1 : (headSpec ws rm).pre.before a A.U = true := atoms_intro fun w hw => hws w hw _ _ X.warmed
  have h2 : (Cond.codeWith y bytes maxL ret hh).before a A.U = true := hws _ hcode _ _ X.warmed
  have h3 : (Cond.initialized y.cls).before a A.U = true := hinit _ _ X.warmed
  have h4 : A.cells + (headSpec ws rm).room.cells ≤ R.cells := by rw [show (headSpec ws rm).room.cells = mc from hrc]; exact hp.1
  have h5 : A.slots + (headSpec ws rm).room.slots ≤ R.slots := by rw [show (headSpec ws rm).room.slots = ms from hrs]; exact hp.2.1
  have hPc : Pc a (A.U.calling g mk a) := hblind _ _ _ _ hp.2.2
  obtain ⟨U, Ls, c0, s0⟩ := A
  dsimp only [Pt.U, Pt.locs, Pt.cells, Pt.slots] at h1 h2 h3 h4 h5 X hn hPc ⊢
  obtain ⟨m9, methY, cY, hn9, hmY, hcY, -, hlY, -⟩ := Cond.codeWith_spec h2
  cases Option.some.inj (hn9.symm.trans hn)
  obtain ⟨kY, hkY, -⟩ := className_of_methodNamed hn
  have hinitY : kY.init = .initialized := Cond.initialized_spec (findClass_of_methodNamed hn) hkY h3
  have h : At U g.method c below := by rw [hg]; exact X.here
  have hlocals9 : W9 + (maxL + 11) + (headSpec ws rm).room.locals ≤ R.locals := hlocals
  have happ : (headSpec ws rm).appliesLoose y e.platform (U.calling g mk a) = true :=
    Spec.appliesLoose_calling (g := g) h hdg hn hkY hinitY
      (X.room_calling (g := g) (R' := (headSpec ws rm).room) hsize hmY hcY hframes (by rw [hlY]; omega) h4 h5) h1
  obtain ⟨mid, hmid⟩ := h.above
  have hfr : (U.setTop g).frames = (.java g :: mid) ++ below := by rw [State.frames_setTop' g h.top, hmid]; rfl
  obtain ⟨o, s₂, hsteps, -, hend, hq⟩ := Steps.callFree hM p X.admits X.cas X.clock (acts := []) hfr happ hPc trivial
  have hq' : vx_Q Qc XC mc ms free a (U.calling g mk a) o s₂ := hq
  rw [State.frames_setTop' g h.top] at hend
  obtain ⟨g₀, hg0⟩ := Option.isSome_iff_exists.mp h.top
  obtain ⟨r, hr⟩ := State.topJava?_eq_some.mp hg0
  have hr' : (({ U with heap := s₂.heap, slotsUsed := s₂.slotsUsed } : State).setVm s₂.vm).frames = .java g₀ :: r := hr
  rcases hq' with ⟨hqc, L, hfe, hL⟩ | ⟨q, rfl, E, ce, L, hx, hce, hcv, hcl, hW₂, hsm, hL⟩
  · obtain ⟨⟨v, rfl⟩, hW₂, e2, q2, q3, q4, q5, q6⟩ := id hfe
    have e3 : s₂ = ({ (U.calling g mk a).setFrames s₂.frames with heap := s₂.heap, slotsUsed := s₂.slotsUsed } : State).setVm s₂.vm := by
      have : s₂ = ({ s₂ with vm := (U.calling g mk a).vm } : State).setVm s₂.vm := rfl
      rw [e2] at this
      exact this
    obtain ⟨c₂, i₂, len₂, hc₂, hd₂, hf₂⟩ := hend
    have hW' : U.WarmedH s₂.vm := hW₂
    have hcc : c₂ = c := by
      have h1 : s₂.code? g.method = U.code? g.method := by
        rw [State.code?_eq, State.code?_eq, hW'.alike.method?]
      exact Option.some.inj (hc₂.symm.trans (h1.trans h.code))
    subst hcc
    have hlen : len₂ = len := by rw [hdg] at hd₂; cases hd₂; rfl
    subst hlen
    have hs₂ : s₂ = (({ U with heap := s₂.heap, slotsUsed := s₂.slotsUsed } : State).setVm s₂.vm).setTop { g with pc := g.pc + len₂, stack := v.toList ++ g.stack } := by
      refine e3.trans ?_
      rw [hf₂, State.calling_eq h.top, State.setFrames_setFrames, State.setTop_of_frames _ hr', hr]
      rfl
    have hsame : U.sameButNew ({ U with heap := s₂.heap, slotsUsed := s₂.slotsUsed } : State) L mc ms := by
      refine ⟨?_, q2, q3, q4, q5, q6⟩
      obtain ⟨t, ht, -⟩ := State.frames_cons hr
      show ({ U with heap := s₂.heap, slotsUsed := s₂.slotsUsed } : State) = { U.setFrames U.frames with heap := s₂.heap, slotsUsed := s₂.slotsUsed }
      rw [State.setFrames_self ht]
    subst hg
    refine Or.inl ⟨v, ⟨(({ U with heap := s₂.heap, slotsUsed := s₂.slotsUsed } : State).setVm s₂.vm), Ls ++ L, c0 + mc, s0 + ms⟩,
      ⟨X.admits, X.cas, X.clock, X.frames, X.room, X.hears, X.method, X.code, (X.here.setHeapUsed s₂.heap s₂.slotsUsed).setVm hW'.alike, X.tail, State.WarmedH.trans X.warmed hW', X.limits, X.bytes, X.same.trans (hsame.setVm s.vm)⟩,
      ⟨g, mk, s₂, L, rfl, rfl, hqc, rfl, hL, rfl, rfl⟩, ?_⟩
    show Steps p.tables e below _ ((({ U with heap := s₂.heap, slotsUsed := s₂.slotsUsed } : State).setVm s₂.vm).setTop { g with pc := g.pc + len₂, stack := v.toList ++ g.stack })
    rw [← hs₂]
    exact hsteps
  · obtain ⟨e2, q2, q3, q4, q5, q6⟩ := id hsm
    have e3 : s₂ = ({ (U.calling g mk a).setFrames s₂.frames with heap := s₂.heap, slotsUsed := s₂.slotsUsed } : State).setVm s₂.vm := by
      have : s₂ = ({ s₂ with vm := (U.calling g mk a).vm } : State).setVm s₂.vm := rfl
      rw [e2] at this
      exact this
    have hf₂ : s₂.frames = .throwing q :: .java g :: U.frames.tail := hend
    have hW' : U.WarmedH s₂.vm := hW₂
    have hs₂ : s₂ = ((({ U with heap := s₂.heap, slotsUsed := s₂.slotsUsed } : State).setVm s₂.vm).setTop g).pushFrame (.throwing q) := by
      refine e3.trans ?_
      rw [hf₂, State.calling_eq h.top, State.setFrames_setFrames, State.pushFrame, State.frames_setTop _ hr', State.setTop_of_frames _ hr', State.setFrames_setFrames, hr]
      rfl
    have hsame : U.sameButNew ({ U with heap := s₂.heap, slotsUsed := s₂.slotsUsed } : State) L mc ms := by
      refine ⟨?_, q2, q3, q4, q5, q6⟩
      obtain ⟨t, ht, -⟩ := State.frames_cons hr
      show ({ U with heap := s₂.heap, slotsUsed := s₂.slotsUsed } : State) = { U.setFrames U.frames with heap := s₂.heap, slotsUsed := s₂.slotsUsed }
      rw [State.setFrames_self ht]
    subst hg
    refine Or.inr ⟨q, ⟨(({ U with heap := s₂.heap, slotsUsed := s₂.slotsUsed } : State).setVm s₂.vm), Ls ++ L, c0 + mc, s0 + ms⟩,
      ⟨X.admits, X.cas, X.clock, X.frames, X.room, X.hears, X.method, X.code, (X.here.setHeapUsed s₂.heap s₂.slotsUsed).setVm hW'.alike, X.tail, State.WarmedH.trans X.warmed hW', X.limits, X.bytes, X.same.trans (hsame.setVm s.vm)⟩,
      ⟨g, mk, s₂, L, E, ce, rfl, rfl, hx, hce, hcv, hcl, rfl, hL, rfl, rfl⟩, ?_⟩
    show Steps p.tables e below _ (((({ U with heap := s₂.heap, slotsUsed := s₂.slotsUsed } : State).setVm s₂.vm).setTop g).pushFrame (.throwing q))
    rw [← hs₂]
    exact hsteps
end
variable {p : Program} {l : Launch} {e : Env} {R : Room} {s : State} {m : MethodId} {args : Array Value} {below : List Frame} {meth : Method} {c : Code} {T : State} {H : Heap} {locs : List Loc} {cells slots : Nat}
theorem vx_callVX (X : Stand p l e R s m args below meth c T locs cells slots) (hexec : p.tables.exec = Jvm.exec) {own C : String} {index : Nat} {y : MethodName} {bytes : ByteArray} {maxL : Nat} {ret : Option FieldType} {hh : List (Nat × Nat × Nat × Nat)}
    (hown : s.vm.findClass own = some m.cls) (hlink : (Cond.methodLink own index y).before args s = true) (hinst : (Cond.instanceMethod y).before args s = true) (hsel : (Cond.selects C y y).before args s = true)
    (hcode : (Cond.codeWith y bytes maxL ret hh).before args s = true) (hy : y.cls ≠ "java/lang/invoke/MethodHandle" ∧ y.cls ≠ "java/lang/invoke/VarHandle")
    {W9 : Nat} {Pre : Pt → Array Value → Prop} {Post : Pt → Array Value → Option Value → Pt → Prop} {PostX : Pt → Array Value → Addr → Pt → Prop} (hK : vx_Back l R p e below s args y 3 W9 Pre Post PostX)
    {b : Addr} {cellB : Cell} (hcell : T.heap[b]? = some cellB) (hobj : cellB.vm.isStatics = false) (hcls : s.vm.findClass C = some cellB.cls)
    {g : JFrame} (hg : g.method = m) (hsize : g.locals.size = c.maxLocals) {argsL rest : List Value} (hlen : ∀ sig, parseMethodDescriptor y.desc = some sig → argsL.length = sig.parameters.length)
    (hstack : g.stack = argsL.reverse ++ .ref b :: rest) (hW : 2 * g.monitorRoom + (rest.map fun v => v.category).sum ≤ W9) (hdg : decode c.code g.pc = .ok (.invokevirtual index, 3))
    (hpre : ∀ vm₁, s.WarmedH vm₁ → Pre ⟨T.setVm vm₁, locs, cells, slots⟩ (Value.ref b :: argsL).toArray) :
    (∃ (v : Option Value) (vm₁ : Vm) (B : Pt), s.WarmedH vm₁ ∧ Stand p l e R s m args below meth c B.U B.locs B.cells B.slots ∧ Post ⟨T.setVm vm₁, locs, cells, slots⟩ (Value.ref b :: argsL).toArray v B ∧
      ∀ target, Steps p.tables e below (B.U.setTop { g with pc := g.pc + 3, stack := v.toList ++ rest }) target → Steps p.tables e below (T.setTop g) target) ∨
    (∃ (q : Addr) (vm₁ : Vm) (B : Pt), s.WarmedH vm₁ ∧ Stand p l e R s m args below meth c B.U B.locs B.cells B.slots ∧ PostX ⟨T.setVm vm₁, locs, cells, slots⟩ (Value.ref b :: argsL).toArray q B ∧
      Steps p.tables e below (T.setTop g) ((B.U.setTop { g with stack := rest }).pushFrame (.throwing q))) := by
  obtain ⟨mk, methM, hnamed, hmethM, hstM, habM⟩ := Cond.instanceMethod_spec hinst
  obtain ⟨m8, methM', cM, hn8, hmethM', -, -, -, -, -, -, hsigM⟩ := Cond.codeWith_spec hcode
  cases Option.some.inj (hn8.symm.trans hnamed)
  cases hmethM.symm.trans hmethM'
  obtain ⟨c2, r2, m2, q1, q2, q3, q4, kP, hkP, hkPi⟩ := Cond.selects_spec hsel
  cases hcls.symm.trans q1
  cases (State.methodFound?_of_named hnamed hy).symm.trans q2
  cases hnamed.symm.trans q3
  have hselP : selectMethod e.platform s.vm cellB.cls mk = .method mk := by rw [Launch.admits_selectMethod X.admits]; exact q4
  obtain ⟨vm₁, X₁, hstep₁⟩ := X.invokevirtual hexec hown hlink hnamed hmethM hstM hkP hkPi hy (a := b) (cell := cellB) hcell
    (fun z h => by rw [h] at hobj; cases hobj) hselP hmethM habM hkP hkPi (g := g) hg (argsL := argsL) (rest := rest) (hlen _ hsigM) hstack hdg
  rcases hK m meth c ⟨T.setVm vm₁, locs, cells, slots⟩ { g with stack := rest } (.invokevirtual index) mk (Value.ref b :: argsL).toArray X₁ hg hsize hdg hW (X₁.named hnamed) (hpre vm₁ X₁.warmed) with ⟨v, B, X', hpost, hsteps⟩ | ⟨q, B, X', hpost, hsteps⟩
  · exact Or.inl ⟨v, vm₁, B, X₁.warmed, X', hpost, fun target h => hstep₁ _ fun acts => by rw [doInvoke_state]; exact hsteps.trans h⟩
  · exact Or.inr ⟨q, vm₁, B, X₁.warmed, X', hpost, hstep₁ _ fun acts => by rw [doInvoke_state]; exact hsteps⟩
theorem vx_callSX (X : Stand p l e R s m args below meth c T locs cells slots) (hexec : p.tables.exec = Jvm.exec) {own : String} {index : Nat} {y : MethodName} {bytes : ByteArray} {maxL : Nat} {ret : Option FieldType} {hh : List (Nat × Nat × Nat × Nat)}
    (hown : s.vm.findClass own = some m.cls) (hlink : (Cond.methodLink own index y).before args s = true) (hstat : (Cond.static y).before args s = true) (hinit : (Cond.initialized y.cls).before args s = true)
    (hcode : (Cond.codeWith y bytes maxL ret hh).before args s = true) (hy : y.cls ≠ "java/lang/invoke/MethodHandle" ∧ y.cls ≠ "java/lang/invoke/VarHandle")
    {W9 : Nat} {Pre : Pt → Array Value → Prop} {Post : Pt → Array Value → Option Value → Pt → Prop} {PostX : Pt → Array Value → Addr → Pt → Prop} (hK : vx_Back l R p e below s args y 3 W9 Pre Post PostX)
    {g : JFrame} (hg : g.method = m) (hsize : g.locals.size = c.maxLocals) {argsL rest : List Value} (hlen : ∀ sig, parseMethodDescriptor y.desc = some sig → argsL.length = sig.parameters.length)
    (hstack : g.stack = argsL.reverse ++ rest) (hW : 2 * g.monitorRoom + (rest.map fun v => v.category).sum ≤ W9) (hdg : decode c.code g.pc = .ok (.invokestatic index, 3))
    (hpre : ∀ vm₁, s.WarmedH vm₁ → Pre ⟨T.setVm vm₁, locs, cells, slots⟩ argsL.toArray) :
    (∃ (v : Option Value) (vm₁ : Vm) (B : Pt), s.WarmedH vm₁ ∧ Stand p l e R s m args below meth c B.U B.locs B.cells B.slots ∧ Post ⟨T.setVm vm₁, locs, cells, slots⟩ argsL.toArray v B ∧
      ∀ target, Steps p.tables e below (B.U.setTop { g with pc := g.pc + 3, stack := v.toList ++ rest }) target → Steps p.tables e below (T.setTop g) target) ∨
    (∃ (q : Addr) (vm₁ : Vm) (B : Pt), s.WarmedH vm₁ ∧ Stand p l e R s m args below meth c B.U B.locs B.cells B.slots ∧ PostX ⟨T.setVm vm₁, locs, cells, slots⟩ argsL.toArray q B ∧
      Steps p.tables e below (T.setTop g) ((B.U.setTop { g with stack := rest }).pushFrame (.throwing q))) := by
  obtain ⟨mk, methM, cM, hnamed, hmethM, -, -, -, -, -, -, hsigM⟩ := Cond.codeWith_spec hcode
  have hstatic : methM.isStatic = true := Cond.static_spec hnamed hmethM hstat
  obtain ⟨kP, hkP, -⟩ := className_of_methodNamed hnamed
  have hinitP : kP.init = .initialized := Cond.initialized_spec (findClass_of_methodNamed hnamed) hkP hinit
  obtain ⟨vm₁, X₁, hstep₁⟩ := X.invokestatic hexec hown hlink hnamed hmethM hstatic hkP hinitP hy (g := g) hg (argsL := argsL) (rest := rest) (hlen _ hsigM) hstack hdg
  rcases hK m meth c ⟨T.setVm vm₁, locs, cells, slots⟩ { g with stack := rest } (.invokestatic index) mk argsL.toArray X₁ hg hsize hdg hW (X₁.named hnamed) (hpre vm₁ X₁.warmed) with ⟨v, B, X', hpost, hsteps⟩ | ⟨q, B, X', hpost, hsteps⟩
  · exact Or.inl ⟨v, vm₁, B, X₁.warmed, X', hpost, fun target h => hstep₁ _ fun acts => by rw [doInvoke_state]; exact hsteps.trans h⟩
  · exact Or.inr ⟨q, vm₁, B, X₁.warmed, X', hpost, hstep₁ _ fun acts => by rw [doInvoke_state]; exact hsteps⟩
theorem vx_callVW (X : Stand p l e R s m args below meth c T locs cells slots) (hexec : p.tables.exec = Jvm.exec) {own C : String} {index : Nat} {y : MethodName} {bytes : ByteArray} {maxL : Nat} {ret : Option FieldType} {hh : List (Nat × Nat × Nat × Nat)}
    (hown : s.vm.findClass own = some m.cls) (hlink : (Cond.methodLink own index y).before args s = true) (hinst : (Cond.instanceMethod y).before args s = true) (hsel : (Cond.selects C y y).before args s = true)
    (hcode : (Cond.codeWith y bytes maxL ret hh).before args s = true) (hy : y.cls ≠ "java/lang/invoke/MethodHandle" ∧ y.cls ≠ "java/lang/invoke/VarHandle")
    {W9 : Nat} {Pre : Pt → Array Value → Prop} {Post : Pt → Array Value → Option Value → Pt → Prop} (hK : Back l R p e below s args y 3 W9 Pre Post)
    {b : Addr} {cellB : Cell} (hcell : T.heap[b]? = some cellB) (hobj : cellB.vm.isStatics = false) (hcls : s.vm.findClass C = some cellB.cls)
    {g : JFrame} (hg : g.method = m) (hsize : g.locals.size = c.maxLocals) {argsL rest : List Value} (hlen : ∀ sig, parseMethodDescriptor y.desc = some sig → argsL.length = sig.parameters.length)
    (hstack : g.stack = argsL.reverse ++ .ref b :: rest) (hW : 2 * g.monitorRoom + (rest.map fun v => v.category).sum ≤ W9) (hdg : decode c.code g.pc = .ok (.invokevirtual index, 3))
    (hpre : ∀ vm₁, s.WarmedH vm₁ → Pre ⟨T.setVm vm₁, locs, cells, slots⟩ (Value.ref b :: argsL).toArray) :
    ∃ (v : Option Value) (vm₁ : Vm) (B : Pt), s.WarmedH vm₁ ∧ Stand p l e R s m args below meth c B.U B.locs B.cells B.slots ∧ Post ⟨T.setVm vm₁, locs, cells, slots⟩ (Value.ref b :: argsL).toArray v B ∧
      ∀ target, Steps p.tables e below (B.U.setTop { g with pc := g.pc + 3, stack := v.toList ++ rest }) target → Steps p.tables e below (T.setTop g) target := by
  obtain ⟨mk, methM, hnamed, hmethM, hstM, habM⟩ := Cond.instanceMethod_spec hinst
  obtain ⟨m8, methM', cM, hn8, hmethM', -, -, -, -, -, -, hsigM⟩ := Cond.codeWith_spec hcode
  cases Option.some.inj (hn8.symm.trans hnamed)
  cases hmethM.symm.trans hmethM'
  obtain ⟨c2, r2, m2, q1, q2, q3, q4, kP, hkP, hkPi⟩ := Cond.selects_spec hsel
  cases hcls.symm.trans q1
  cases (State.methodFound?_of_named hnamed hy).symm.trans q2
  cases hnamed.symm.trans q3
  have hselP : selectMethod e.platform s.vm cellB.cls mk = .method mk := by rw [Launch.admits_selectMethod X.admits]; exact q4
  obtain ⟨vm₁, X₁, hstep₁⟩ := X.invokevirtual hexec hown hlink hnamed hmethM hstM hkP hkPi hy (a := b) (cell := cellB) hcell
    (fun z h => by rw [h] at hobj; cases hobj) hselP hmethM habM hkP hkPi (g := g) hg (argsL := argsL) (rest := rest) (hlen _ hsigM) hstack hdg
  obtain ⟨v, B, X', hpost, hsteps⟩ := hK m meth c ⟨T.setVm vm₁, locs, cells, slots⟩ { g with stack := rest } (.invokevirtual index) mk (Value.ref b :: argsL).toArray X₁ hg hsize hdg hW (X₁.named hnamed) (hpre vm₁ X₁.warmed)
  exact ⟨v, vm₁, B, X₁.warmed, X', hpost, fun target h => hstep₁ _ fun acts => by rw [doInvoke_state]; exact hsteps.trans h⟩
abbrev vx_CVW (R : Room) (s : State) (args : Array Value) (own C : String) (index : Nat) (y : MethodName) (bytes : ByteArray) (maxL : Nat) (ret : Option FieldType) (hh : List (Nat × Nat × Nat × Nat)) (ws : List Cond) (rm : Room) (mc ms n : Nat) : Prop :=
  (rm.cells = mc ∧ rm.slots = ms ∧ rm.frames + 1 ≤ R.frames ∧ 8 + (maxL + 11) + rm.locals ≤ R.locals ∧ (∀ w ∈ ws, ∀ (a' : Array Value) (U : State), s.WarmedH U.vm → w.before a' U = true) ∧ Cond.codeWith y bytes maxL ret hh ∈ ws) ∧
  (Cond.codeWith y bytes maxL ret hh).before args s = true ∧ (Cond.initialized y.cls).before args s = true ∧ (y.cls ≠ "java/lang/invoke/MethodHandle" ∧ y.cls ≠ "java/lang/invoke/VarHandle") ∧
  (∀ sig, parseMethodDescriptor y.desc = some sig → n = sig.parameters.length) ∧ (Cond.methodLink own index y).before args s = true ∧ (Cond.instanceMethod y).before args s = true ∧ (Cond.selects C y y).before args s = true
theorem vx_cwVW {own C : String} {index maxL mc ms : Nat} {y : MethodName} {bytes : ByteArray} {ret : Option FieldType} {hh : List (Nat × Nat × Nat × Nat)} {Ts ws ws' : List Cond} {rm : Room} (n : Nat) (ht : ∀ w ∈ Ts, w.before args s = true) (hT : GoodIn Ts (wsV own index C y ws)) (hw : ws = Cond.codeWith y bytes maxL ret hh :: ws') (hrc : rm.cells = mc) (hrs : rm.slots = ms)
    (hd : y.cls = C ∧ y.cls ≠ "java/lang/invoke/MethodHandle" ∧ y.cls ≠ "java/lang/invoke/VarHandle" ∧ (parseMethodDescriptor y.desc).map (fun d => d.parameters.length) = some n) (hR : rm.frames + 1 ≤ R.frames ∧ 8 + (maxL + 11) + rm.locals ≤ R.locals) :
    vx_CVW R s args own C index y bytes maxL ret hh ws rm mc ms n := by
  obtain ⟨hC, hd⟩ := hd
  subst hC
  have ok : ∀ w ∈ wsV own index y.cls y ws, w.before args s = true := fun w h => ht w (hT w h).1
  have hG : GoodIn Ts ws := fun w h => hT w (by unfold wsV; exact List.mem_append_right _ h)
  have hc : Cond.codeWith y bytes maxL ret hh ∈ ws := by rw [hw]; exact List.mem_cons_self
  refine ⟨⟨hrc, hrs, hR.1, hR.2, pay_in ht hG, hc⟩, ht _ (hG _ hc).1, ok _ (by simp [wsV]), ⟨hd.1, hd.2.1⟩, fun sig h => ?_, ok _ (by simp [wsV]), ok _ (by simp [wsV]), ok _ (by simp [wsV])⟩
  have h2 := hd.2.2
  rw [h] at h2
  exact (Option.some.inj h2).symm
theorem vx_runVW {y : MethodName} {bytes cc : ByteArray} {maxL nL mc ms n index : Nat} {ret : Option FieldType} {hh : List (Nat × Nat × Nat × Nat)} {ws : List Cond} {rm : Room} {Pc : Array Value → State → Prop} {Qc : Array Value → State → Outcome → State → Prop} {free : Addr → Prop} {Ts : List Cond} {own C : String} {b : Addr} {As rest : List Value} {g : JFrame}
    (S : CallFix p m c cc nL s args Ts own) (hM : Met l y ws rm Pc Qc mc ms free) (cw : vx_CVW R s args own C index y bytes maxL ret hh ws rm mc ms n) (hp : PreV s H C b Pc As)
    (hg : g.method = m) (hn : As.length = n) (hsize : g.locals.size = nL) (hstack : g.stack = As.reverse ++ .ref b :: rest) (hW : 2 * g.monitorRoom + (rest.map fun v => v.category).sum ≤ 8) (hdg : decode cc g.pc = .ok (.invokevirtual index, 3)) (hf : cells + mc ≤ R.cells ∧ slots + ms ≤ R.slots) :
    va_Run p l e R s m args below meth c H locs cells slots mc ms g rest (Qc (Value.ref b :: As).toArray) free := by
  obtain ⟨⟨hrc, hrs, hfr, hlo, hws, hcw⟩, hcode, hini, hy, hlen, hl, hin, hse⟩ := cw
  have hK : Back l R p e below s args y 3 8 (PreOf R mc ms Pc) (PostOf Qc mc ms free) := va_backW (hh := hh) (bytes := bytes) (maxL := maxL) (ret := ret) hM hp.1 hrc hrs hfr hlo hws hcw (fun a' U hW => word_at hW (Or.inl (by first | rfl | simp [Cond.onTables, Cond.keeps, Cond.steady])) hini)
  obtain ⟨hx, hb, hml, ho, -⟩ := S
  obtain ⟨-, ⟨cellB, hcB, hoB, hclB⟩, hPc⟩ := hp
  intro T hT X
  obtain ⟨v, vm₁, ⟨U', l2, c2, s2⟩, hW₁, X', ⟨g', mk, t, L, e1, e2, hq, h1, hL, h2, h3⟩, st⟩ := vx_callVW X hx (C := C) (hh := hh) (bytes := bytes) (maxL := maxL) (ret := ret) ho hl hin hse hcode hy hK (by rw [hT]; exact hcB) hoB hclB hg (hsize.trans hml.symm) (argsL := As) (rest := rest) (fun sig h => hn.trans (hlen sig h)) hstack hW (by rw [hb]; exact hdg)
    (fun vm₁ hW₁ => ⟨hf.1, hf.2, hPc (T.setVm vm₁) hT hW₁⟩)
  dsimp only [Pt.U, Pt.locs, Pt.cells, Pt.slots] at X' e1 e2 h1 h2 h3 st
  subst h1; subst h2; subst h3
  exact ⟨v, (T.setVm vm₁).calling g' mk (Value.ref b :: As).toArray, t, U', L, hT, X', hL, e1, e2, hq, st⟩
section
variable {y : MethodName} {bytes cc : ByteArray} {maxL nL mc ms n index : Nat} {ret : Option FieldType} {ws : List Cond} {rm : Room} {Pc : Array Value → State → Prop} {Qc : Array Value → State → Outcome → State → Prop} {XC : String → State → State → Prop} {free : Addr → Prop} {Ts : List Cond} {own C : String} {b : Addr} {As rest : List Value} {g : JFrame}
theorem vx_runVX {hh : List (Nat × Nat × Nat × Nat)} (S : CallFix p m c cc nL s args Ts own) (hM : vx_Met l y ws rm Pc Qc XC mc ms free) (cw : vx_CVW R s args own C index y bytes maxL ret hh ws rm mc ms n) (hp : PreV s H C b Pc As)
    (hg : g.method = m) (hn : As.length = n) (hsize : g.locals.size = nL) (hstack : g.stack = As.reverse ++ .ref b :: rest) (hW : 2 * g.monitorRoom + (rest.map fun v => v.category).sum ≤ 8) (hdg : decode cc g.pc = .ok (.invokevirtual index, 3)) (hf : cells + mc ≤ R.cells ∧ slots + ms ≤ R.slots) :
    vx_Run p l e R s m args below meth c H locs cells slots mc ms g rest (Qc (Value.ref b :: As).toArray) XC free := by
  obtain ⟨⟨hrc, hrs, hfr, hlo, hws, hcw⟩, hcode, hini, hy, hlen, hl, hin, hse⟩ := cw
  have hK : vx_Back l R p e below s args y 3 8 (PreOf R mc ms Pc) (PostOf Qc mc ms free) (vx_Post XC mc ms free) := vx_backW (hh := hh) (bytes := bytes) (maxL := maxL) (ret := ret) hM hp.1 hrc hrs hfr hlo hws hcw (fun a' U hW => word_at hW (Or.inl (by first | rfl | simp [Cond.onTables, Cond.keeps, Cond.steady])) hini)
  obtain ⟨hx, hb, hml, ho, -⟩ := S
  obtain ⟨-, ⟨cellB, hcB, hoB, hclB⟩, hPc⟩ := hp
  intro T hT X
  rcases vx_callVX X hx (C := C) (hh := hh) (bytes := bytes) (maxL := maxL) (ret := ret) ho hl hin hse hcode hy hK (by rw [hT]; exact hcB) hoB hclB hg (hsize.trans hml.symm) (argsL := As) (rest := rest) (fun sig h => hn.trans (hlen sig h)) hstack hW (by rw [hb]; exact hdg)
    (fun vm₁ hW₁ => ⟨hf.1, hf.2, hPc (T.setVm vm₁) hT hW₁⟩) with ⟨v, vm₁, ⟨U', l2, c2, s2⟩, hW₁, X', ⟨g', mk, t, L, e1, e2, hq, h1, hL, h2, h3⟩, st⟩ | ⟨q, vm₁, ⟨U', l2, c2, s2⟩, hW₁, X', ⟨g', mk, t, L, E, ce, e1, e2, hq, hce, hcv, hcl, h1, hL, h2, h3⟩, st⟩
  · dsimp only [Pt.U, Pt.locs, Pt.cells, Pt.slots] at X' e1 e2 h1 h2 h3 st
    subst h1; subst h2; subst h3
    exact Or.inl ⟨v, (T.setVm vm₁).calling g' mk (Value.ref b :: As).toArray, t, U', L, hT, X', hL, e1, e2, hq, st⟩
  · dsimp only [Pt.U, Pt.locs, Pt.cells, Pt.slots] at X' e1 e2 h1 h2 h3 st hcl
    subst h1; subst h2; subst h3
    exact Or.inr ⟨q, (T.setVm vm₁).calling g' mk (Value.ref b :: As).toArray, t, U', L, E, ce, hT, X', hL, e1, e2, hq, hce, hcv, vx_cls hW₁ hcl, st⟩
theorem vx_runSX {hh : List (Nat × Nat × Nat × Nat)} (S : CallFix p m c cc nL s args Ts own) (hM : vx_Met l y ws rm Pc Qc XC mc ms free) (cw : vx_CSW R s args own index y bytes maxL ret hh ws rm mc ms n) (hp : PreS s H Pc As)
    (hg : g.method = m) (hn : As.length = n) (hsize : g.locals.size = nL) (hstack : g.stack = As.reverse ++ rest) (hW : 2 * g.monitorRoom + (rest.map fun v => v.category).sum ≤ 8) (hdg : decode cc g.pc = .ok (.invokestatic index, 3)) (hf : cells + mc ≤ R.cells ∧ slots + ms ≤ R.slots) :
    vx_Run p l e R s m args below meth c H locs cells slots mc ms g rest (Qc As.toArray) XC free := by
  obtain ⟨⟨hrc, hrs, hfr, hlo, hws, hcw⟩, hcode, hini, hy, hlen, hl, hstt⟩ := cw
  have hK : vx_Back l R p e below s args y 3 8 (PreOf R mc ms Pc) (PostOf Qc mc ms free) (vx_Post XC mc ms free) := vx_backW (hh := hh) (bytes := bytes) (maxL := maxL) (ret := ret) hM hp.1 hrc hrs hfr hlo hws hcw (fun a' U hW => word_at hW (Or.inl (by first | rfl | simp [Cond.onTables, Cond.keeps, Cond.steady])) hini)
  obtain ⟨hx, hb, hml, ho, -⟩ := S
  intro T hT X
  rcases vx_callSX X hx (hh := hh) (bytes := bytes) (maxL := maxL) (ret := ret) ho hl hstt hini hcode hy hK hg (hsize.trans hml.symm) (argsL := As) (rest := rest) (fun sig h => hn.trans (hlen sig h)) hstack hW (by rw [hb]; exact hdg)
    (fun vm₁ hW₁ => ⟨hf.1, hf.2, hp.2 (T.setVm vm₁) hT hW₁⟩) with ⟨v, vm₁, ⟨U', l2, c2, s2⟩, hW₁, X', ⟨g', mk, t, L, e1, e2, hq, h1, hL, h2, h3⟩, st⟩ | ⟨q, vm₁, ⟨U', l2, c2, s2⟩, hW₁, X', ⟨g', mk, t, L, E, ce, e1, e2, hq, hce, hcv, hcl, h1, hL, h2, h3⟩, st⟩
  · dsimp only [Pt.U, Pt.locs, Pt.cells, Pt.slots] at X' e1 e2 h1 h2 h3 st
    subst h1; subst h2; subst h3
    exact Or.inl ⟨v, (T.setVm vm₁).calling g' mk As.toArray, t, U', L, hT, X', hL, e1, e2, hq, st⟩
  · dsimp only [Pt.U, Pt.locs, Pt.cells, Pt.slots] at X' e1 e2 h1 h2 h3 st hcl
    subst h1; subst h2; subst h3
    exact Or.inr ⟨q, (T.setVm vm₁).calling g' mk As.toArray, t, U', L, E, ce, hT, X', hL, e1, e2, hq, hce, hcv, vx_cls hW₁ hcl, st⟩
end
end VXH
theorem vx_ofWH {l : Launch} {y : MethodName} {ws ws' : List Cond} {rm : Room} {Pc : Array Value → State → Prop} {Qc : Array Value → State → Outcome → State → Prop} {XC : String → State → State → Prop} {mc ms : Nat} {free : Addr → Prop} {cc : ByteArray} {maxL : Nat} {ret : Option FieldType} {hh : List (Nat × Nat × Nat × Nat)}
    (hy : plainName y.cls = true) (hw : ws = Cond.codeWith y cc maxL ret hh :: ws')
    (body : ∀ p e s m args below meth c s₁, BodyLoose p l y (headSpec ws rm) cc maxL ret e s m args below meth c s₁ → c.maxLocals = maxL → Pc args s →
      W p l e (headSpec ws rm).room s m args below meth c s.heap [] 0 0 (vx_MQ below Qc XC args s mc ms free) (entryFrame m args maxL)) : vx_Met l y ws rm Pc Qc XC mc ms free := by
  refine MetFree.of_bodyS (code := cc) (maxLocals := maxL) (ret := ret) hy ?_ ?_
  · intro args s m h hn
    obtain ⟨m9, meth, c, hn9, h1, h2, h3, h4, -, h5, h6, -⟩ := Cond.codeWith_spec (atoms_spec (ws := ws) h _ (by rw [hw]; exact List.mem_cons_self))
    cases hn.symm.trans hn9
    exact ⟨meth, c, h1, h2, h3, h4, h5, h6⟩
  · intro p e s m args below meth c s₁ B hml hP _
    have hh0 : s₁.heap = s.heap := by rw [B.state]; rfl
    obtain ⟨t, a1, o, b1, b2, b3⟩ := body p e s m args below meth c s₁ B hml hP s₁ hh0 (Stand.of_body B)
    exact ⟨t, o, a1, b1, b2, b3⟩
/-! ===== END ===== -/
end
section
/-! ===== BEGIN printed: names, fields, word lists, decode rows ===== -/
def RX0 : String := "CircleCells$Circle"
def TX0 : u_T := fun k => match k with
  | 0 => ("CircleCells$Circle", "fromX", "I", false)
  | 1 => ("CircleCells$Circle", "fromY", "I", false)
  | 2 => ("CircleCells$Circle", "aimX", "J", false)
  | 3 => ("CircleCells$Circle", "aimY", "J", false)
  | _ => ("CircleCells$Circle", "span", "J", false)
def tyX0 : Nat → FieldType := fun k => match k with
  | 0 => .int
  | 1 => .int
  | 2 => .long
  | 3 => .long
  | _ => .long
abbrev wsX00 : List Cond := u_ws RX0 TX0 5
theorem nmX0 : ∀ a, a < 5 → ∀ b, b < 5 → a ≠ b → (TX0 a).2.1 ≠ (TX0 b).2.1 := by decide +kernel
theorem tyX0_ok : ∀ k, k < 5 → parseFieldDescriptor (TX0 k).2.2.1 = some (tyX0 k) := by decide +kernel
abbrev cX0_init : ByteArray := prog_2_method_1_code
def yX0_init : MethodName := ⟨RX0, "<init>", "()V"⟩
abbrev cX0_layThrough : ByteArray := prog_2_method_2_code
def yX0_layThrough : MethodName := ⟨RX0, "layThrough", "(LCircleCells$Sites;III)V"⟩
abbrev cX0_power : ByteArray := prog_2_method_3_code
def yX0_power : MethodName := ⟨RX0, "power", "(II)J"⟩
abbrev cX0_middle : ByteArray := prog_2_method_4_code
def yX0_middle : MethodName := ⟨RX0, "middle", "(I)J"⟩
abbrev cX0_commonDivisor : ByteArray := prog_2_method_5_code
def yX0_commonDivisor : MethodName := ⟨RX0, "commonDivisor", "(JJ)J"⟩
def RX1 : String := "CircleCells$Mosaic"
def TX1 : u_T := fun k => match k with
  | 0 => ("CircleCells$Mosaic", "sites", "LCircleCells$Sites;", true)
  | 1 => ("CircleCells$Mosaic", "circle", "LCircleCells$Circle;", true)
  | 2 => ("CircleCells$Mosaic", "ring", "[I", true)
  | 3 => ("CircleCells$Mosaic", "start", "[I", true)
  | 4 => ("CircleCells$Mosaic", "owner", "[I", true)
  | 5 => ("CircleCells$Mosaic", "cellCount", "I", false)
  | 6 => ("CircleCells$Mosaic", "rim", "[I", true)
  | _ => ("CircleCells$Mosaic", "rimCount", "I", false)
def tyX1 : Nat → FieldType := fun k => match k with
  | 0 => .object "CircleCells$Sites"
  | 1 => .object "CircleCells$Circle"
  | 2 => .array .int
  | 3 => .array .int
  | 4 => .array .int
  | 5 => .int
  | 6 => .array .int
  | _ => .int
abbrev wsX10 : List Cond := u_ws RX1 TX1 8
theorem nmX1 : ∀ a, a < 8 → ∀ b, b < 8 → a ≠ b → (TX1 a).2.1 ≠ (TX1 b).2.1 := by decide +kernel
theorem tyX1_ok : ∀ k, k < 8 → parseFieldDescriptor (TX1 k).2.2.1 = some (tyX1 k) := by decide +kernel
abbrev cX1_init : ByteArray := prog_3_method_1_code
def yX1_init : MethodName := ⟨RX1, "<init>", "(LCircleCells$Sites;)V"⟩
abbrev cX1_build : ByteArray := prog_3_method_2_code
def yX1_build : MethodName := ⟨RX1, "build", "()V"⟩
abbrev cX1_layLeftOf : ByteArray := prog_3_method_3_code
def yX1_layLeftOf : MethodName := ⟨RX1, "layLeftOf", "(II)Z"⟩
abbrev cX1_beginsCell : ByteArray := prog_3_method_4_code
def yX1_beginsCell : MethodName := ⟨RX1, "beginsCell", "(II)Z"⟩
abbrev cX1_powerOf : ByteArray := prog_3_method_5_code
def yX1_powerOf : MethodName := ⟨RX1, "powerOf", "(I)J"⟩
abbrev cX1_addCell : ByteArray := prog_3_method_6_code
def yX1_addCell : MethodName := ⟨RX1, "addCell", "(I)V"⟩
abbrev cX1_insertRound : ByteArray := prog_3_method_7_code
def yX1_insertRound : MethodName := ⟨RX1, "insertRound", "(III)V"⟩
abbrev cX1_claimSides : ByteArray := prog_3_method_8_code
def yX1_claimSides : MethodName := ⟨RX1, "claimSides", "(I)V"⟩
abbrev cX1_sideKey : ByteArray := prog_3_method_9_code
def yX1_sideKey : MethodName := ⟨RX1, "sideKey", "(II)I"⟩
abbrev cX1_walkRim : ByteArray := prog_3_method_10_code
def yX1_walkRim : MethodName := ⟨RX1, "walkRim", "()V"⟩
abbrev cX1_firstOnRim : ByteArray := prog_3_method_11_code
def yX1_firstOnRim : MethodName := ⟨RX1, "firstOnRim", "()I"⟩
abbrev cX1_nextOnRim : ByteArray := prog_3_method_12_code
def yX1_nextOnRim : MethodName := ⟨RX1, "nextOnRim", "(I)I"⟩
abbrev cX1_sideCount : ByteArray := prog_3_method_13_code
def yX1_sideCount : MethodName := ⟨RX1, "sideCount", "(I)I"⟩
abbrev cX1_siteOf : ByteArray := prog_3_method_14_code
def yX1_siteOf : MethodName := ⟨RX1, "siteOf", "(II)I"⟩
abbrev cX1_siteAfter : ByteArray := prog_3_method_15_code
def yX1_siteAfter : MethodName := ⟨RX1, "siteAfter", "(II)I"⟩
abbrev cX1_across : ByteArray := prog_3_method_16_code
def yX1_across : MethodName := ⟨RX1, "across", "(II)I"⟩
abbrev cX1_circleOf : ByteArray := prog_3_method_17_code
def yX1_circleOf : MethodName := ⟨RX1, "circleOf", "(I)LCircleCells$Circle;"⟩
abbrev cX1_firstWith : ByteArray := prog_3_method_18_code
def yX1_firstWith : MethodName := ⟨RX1, "firstWith", "(II)I"⟩
abbrev cX1_holds : ByteArray := prog_3_method_19_code
def yX1_holds : MethodName := ⟨RX1, "holds", "(III)Z"⟩
def RX2 : String := "CircleCells$Sites"
def TX2 : u_T := fun k => match k with
  | 0 => ("CircleCells$Sites", "x", "[I", true)
  | 1 => ("CircleCells$Sites", "y", "[I", true)
  | _ => ("CircleCells$Sites", "size", "I", false)
def tyX2 : Nat → FieldType := fun k => match k with
  | 0 => .array .int
  | 1 => .array .int
  | _ => .int
abbrev wsX20 : List Cond := u_ws RX2 TX2 3
theorem nmX2 : ∀ a, a < 3 → ∀ b, b < 3 → a ≠ b → (TX2 a).2.1 ≠ (TX2 b).2.1 := by decide +kernel
theorem tyX2_ok : ∀ k, k < 3 → parseFieldDescriptor (TX2 k).2.2.1 = some (tyX2 k) := by decide +kernel
abbrev cX2_init : ByteArray := prog_4_method_1_code
def yX2_init : MethodName := ⟨RX2, "<init>", "()V"⟩
abbrev cX2_append : ByteArray := prog_4_method_2_code
def yX2_append : MethodName := ⟨RX2, "append", "(II)I"⟩
abbrev cX2_put : ByteArray := prog_4_method_3_code
def yX2_put : MethodName := ⟨RX2, "put", "(III)V"⟩
abbrev cX2_drop : ByteArray := prog_4_method_4_code
def yX2_drop : MethodName := ⟨RX2, "drop", "(I)V"⟩
abbrev cX2_dropAll : ByteArray := prog_4_method_5_code
def yX2_dropAll : MethodName := ⟨RX2, "dropAll", "()V"⟩
abbrev cX2_numberAt : ByteArray := prog_4_method_6_code
def yX2_numberAt : MethodName := ⟨RX2, "numberAt", "(II)I"⟩
abbrev cX2_closestTo : ByteArray := prog_4_method_7_code
def yX2_closestTo : MethodName := ⟨RX2, "closestTo", "(II)I"⟩
abbrev cX2_squareTo : ByteArray := prog_4_method_8_code
def yX2_squareTo : MethodName := ⟨RX2, "squareTo", "(III)I"⟩
abbrev cX2_turn : ByteArray := prog_4_method_9_code
def yX2_turn : MethodName := ⟨RX2, "turn", "(IIII)I"⟩
abbrev cX2_turn_ : ByteArray := prog_4_method_10_code
def yX2_turn_ : MethodName := ⟨RX2, "turn", "(III)I"⟩
def RX3 : String := "CircleCells"
def TX3 : u_T := fun k => match k with
  | 0 => ("CircleCells", "sites", "LCircleCells$Sites;", true)
  | 1 => ("CircleCells", "mosaic", "LCircleCells$Mosaic;", true)
  | _ => ("CircleCells", "stale", "Z", false)
def tyX3 : Nat → FieldType := fun k => match k with
  | 0 => .object "CircleCells$Sites"
  | 1 => .object "CircleCells$Mosaic"
  | _ => .boolean
abbrev wsX30 : List Cond := u_ws RX3 TX3 3
theorem nmX3 : ∀ a, a < 3 → ∀ b, b < 3 → a ≠ b → (TX3 a).2.1 ≠ (TX3 b).2.1 := by decide +kernel
theorem tyX3_ok : ∀ k, k < 3 → parseFieldDescriptor (TX3 k).2.2.1 = some (tyX3 k) := by decide +kernel
abbrev cX3_init : ByteArray := prog_1_method_1_code
def yX3_init : MethodName := ⟨RX3, "<init>", "()V"⟩
abbrev cX3_site : ByteArray := prog_1_method_2_code
def yX3_site : MethodName := ⟨RX3, "site", "(II)I"⟩
abbrev cX3_remove : ByteArray := prog_1_method_3_code
def yX3_remove : MethodName := ⟨RX3, "remove", "(I)V"⟩
abbrev cX3_move : ByteArray := prog_1_method_4_code
def yX3_move : MethodName := ⟨RX3, "move", "(III)V"⟩
abbrev cX3_clear : ByteArray := prog_1_method_5_code
def yX3_clear : MethodName := ⟨RX3, "clear", "()V"⟩
abbrev cX3_where : ByteArray := prog_1_method_6_code
def yX3_where : MethodName := ⟨RX3, "where", "(II)I"⟩
abbrev cX3_cells : ByteArray := prog_1_method_7_code
def yX3_cells : MethodName := ⟨RX3, "cells", "()I"⟩
abbrev cX3_cell : ByteArray := prog_1_method_8_code
def yX3_cell : MethodName := ⟨RX3, "cell", "(II)I"⟩
abbrev cX3_beside : ByteArray := prog_1_method_9_code
def yX3_beside : MethodName := ⟨RX3, "beside", "(II)I"⟩
abbrev cX3_centre : ByteArray := prog_1_method_10_code
def yX3_centre : MethodName := ⟨RX3, "centre", "(II)J"⟩
abbrev cX3_hull : ByteArray := prog_1_method_11_code
def yX3_hull : MethodName := ⟨RX3, "hull", "(I)I"⟩
abbrev cX3_around : ByteArray := prog_1_method_12_code
def yX3_around : MethodName := ⟨RX3, "around", "(II)I"⟩
abbrev cX3_nearest : ByteArray := prog_1_method_13_code
def yX3_nearest : MethodName := ⟨RX3, "nearest", "(II)I"⟩
abbrev cX3_requirePlace : ByteArray := prog_1_method_14_code
def yX3_requirePlace : MethodName := ⟨RX3, "requirePlace", "(II)V"⟩
abbrev cX3_requireSite : ByteArray := prog_1_method_15_code
def yX3_requireSite : MethodName := ⟨RX3, "requireSite", "(I)V"⟩
abbrev cX3_requireCell : ByteArray := prog_1_method_16_code
def yX3_requireCell : MethodName := ⟨RX3, "requireCell", "(I)V"⟩
abbrev cX3_requireIndex : ByteArray := prog_1_method_17_code
def yX3_requireIndex : MethodName := ⟨RX3, "requireIndex", "(II)V"⟩
abbrev cX3_refresh : ByteArray := prog_1_method_18_code
def yX3_refresh : MethodName := ⟨RX3, "refresh", "()V"⟩
def RX4 : String := "CircleCellsModel"
def TX4 : u_T := fun k => match k with
  | 0 => ("CircleCellsModel", "thrown", "I", false)
  | 1 => ("CircleCellsModel", "sites", "I", false)
  | 2 => ("CircleCellsModel", "x", "[I", true)
  | 3 => ("CircleCellsModel", "y", "[I", true)
  | 4 => ("CircleCellsModel", "made", "Z", false)
  | 5 => ("CircleCellsModel", "cells", "I", false)
  | 6 => ("CircleCellsModel", "size", "[I", true)
  | 7 => ("CircleCellsModel", "round", "[I", true)
  | 8 => ("CircleCellsModel", "order", "[I", true)
  | 9 => ("CircleCellsModel", "hullSize", "I", false)
  | _ => ("CircleCellsModel", "hull", "[I", true)
def tyX4 : Nat → FieldType := fun k => match k with
  | 0 => .int
  | 1 => .int
  | 2 => .array .int
  | 3 => .array .int
  | 4 => .boolean
  | 5 => .int
  | 6 => .array .int
  | 7 => .array .int
  | 8 => .array .int
  | 9 => .int
  | _ => .array .int
abbrev wsX40 : List Cond := u_ws RX4 TX4 11
theorem nmX4 : ∀ a, a < 11 → ∀ b, b < 11 → a ≠ b → (TX4 a).2.1 ≠ (TX4 b).2.1 := by decide +kernel
theorem tyX4_ok : ∀ k, k < 11 → parseFieldDescriptor (TX4 k).2.2.1 = some (tyX4 k) := by decide +kernel
abbrev cX4_init : ByteArray := prog_6_method_1_code
def yX4_init : MethodName := ⟨RX4, "<init>", "()V"⟩
abbrev cX4_thrown : ByteArray := prog_6_method_2_code
def yX4_thrown : MethodName := ⟨RX4, "thrown", "()I"⟩
abbrev cX4_throwing : ByteArray := prog_6_method_3_code
def yX4_throwing : MethodName := ⟨RX4, "throwing", "(ZZ)Z"⟩
abbrev cX4_out : ByteArray := prog_6_method_4_code
def yX4_out : MethodName := ⟨RX4, "out", "(II)Z"⟩
abbrev cX4_isFar : ByteArray := prog_6_method_5_code
def yX4_isFar : MethodName := ⟨RX4, "isFar", "(II)Z"⟩
abbrev cX4_isTaken : ByteArray := prog_6_method_6_code
def yX4_isTaken : MethodName := ⟨RX4, "isTaken", "(III)Z"⟩
abbrev cX4_site : ByteArray := prog_6_method_7_code
def yX4_site : MethodName := ⟨RX4, "site", "(II)I"⟩
abbrev cX4_remove : ByteArray := prog_6_method_8_code
def yX4_remove : MethodName := ⟨RX4, "remove", "(I)V"⟩
abbrev cX4_move : ByteArray := prog_6_method_9_code
def yX4_move : MethodName := ⟨RX4, "move", "(III)V"⟩
abbrev cX4_clear : ByteArray := prog_6_method_10_code
def yX4_clear : MethodName := ⟨RX4, "clear", "()V"⟩
abbrev cX4_where : ByteArray := prog_6_method_11_code
def yX4_where : MethodName := ⟨RX4, "where", "(II)I"⟩
abbrev cX4_turn : ByteArray := prog_6_method_12_code
def yX4_turn : MethodName := ⟨RX4, "turn", "(IIII)J"⟩
abbrev cX4_square : ByteArray := prog_6_method_13_code
def yX4_square : MethodName := ⟨RX4, "square", "(II)J"⟩
abbrev cX4_power : ByteArray := prog_6_method_14_code
def yX4_power : MethodName := ⟨RX4, "power", "(IIII)J"⟩
abbrev cX4_onCircle : ByteArray := prog_6_method_15_code
def yX4_onCircle : MethodName := ⟨RX4, "onCircle", "(III)I"⟩
abbrev cX4_behind : ByteArray := prog_6_method_16_code
def yX4_behind : MethodName := ⟨RX4, "behind", "(II)I"⟩
abbrev cX4_add : ByteArray := prog_6_method_17_code
def yX4_add : MethodName := ⟨RX4, "add", "(II)V"⟩
abbrev cX4_isBefore : ByteArray := prog_6_method_18_code
def yX4_isBefore : MethodName := ⟨RX4, "isBefore", "(II)Z"⟩
abbrev cX4_make : ByteArray := prog_6_method_19_code
def yX4_make : MethodName := ⟨RX4, "make", "()V"⟩
abbrev cX4_after : ByteArray := prog_6_method_20_code
def yX4_after : MethodName := ⟨RX4, "after", "(II)I"⟩
abbrev cX4_withSide : ByteArray := prog_6_method_21_code
def yX4_withSide : MethodName := ⟨RX4, "withSide", "(II)I"⟩
abbrev cX4_onHull : ByteArray := prog_6_method_22_code
def yX4_onHull : MethodName := ⟨RX4, "onHull", "(I)I"⟩
abbrev cX4_surround : ByteArray := prog_6_method_23_code
def yX4_surround : MethodName := ⟨RX4, "surround", "()V"⟩
abbrev cX4_cells : ByteArray := prog_6_method_24_code
def yX4_cells : MethodName := ⟨RX4, "cells", "()I"⟩
abbrev cX4_cell : ByteArray := prog_6_method_25_code
def yX4_cell : MethodName := ⟨RX4, "cell", "(II)I"⟩
abbrev cX4_beside : ByteArray := prog_6_method_26_code
def yX4_beside : MethodName := ⟨RX4, "beside", "(II)I"⟩
abbrev cX4_divisor : ByteArray := prog_6_method_27_code
def yX4_divisor : MethodName := ⟨RX4, "divisor", "(JJ)J"⟩
abbrev cX4_centre : ByteArray := prog_6_method_28_code
def yX4_centre : MethodName := ⟨RX4, "centre", "(II)J"⟩
abbrev cX4_hull : ByteArray := prog_6_method_29_code
def yX4_hull : MethodName := ⟨RX4, "hull", "(I)I"⟩
abbrev cX4_around : ByteArray := prog_6_method_30_code
def yX4_around : MethodName := ⟨RX4, "around", "(II)I"⟩
abbrev cX4_nearest : ByteArray := prog_6_method_31_code
def yX4_nearest : MethodName := ⟨RX4, "nearest", "(II)I"⟩
def RJ9 : String := "java/lang/Math"
def TJ9 : u_T := fun k => match k with
  | _ => ("", "", "", false)
def tyJ9 : Nat → FieldType := fun k => match k with
  | _ => .int
abbrev wsJ90 : List Cond := u_ws RJ9 TJ9 0
theorem nmJ9 : ∀ a, a < 0 → ∀ b, b < 0 → a ≠ b → (TJ9 a).2.1 ≠ (TJ9 b).2.1 := by decide +kernel
theorem tyJ9_ok : ∀ k, k < 0 → parseFieldDescriptor (TJ9 k).2.2.1 = some (tyJ9 k) := by decide +kernel
abbrev cJ9_abs_067f4 : ByteArray := prog_11_method_61_code
def yJ9_abs_067f4 : MethodName := ⟨RJ9, "abs", "(J)J"⟩
def RJ0 : String := "java/lang/String"
def TJ0 : u_T := fun k => match k with
  | _ => ("", "", "", false)
def tyJ0 : Nat → FieldType := fun k => match k with
  | _ => .int
abbrev wsJ00 : List Cond := u_ws RJ0 TJ0 0
theorem nmJ0 : ∀ a, a < 0 → ∀ b, b < 0 → a ≠ b → (TJ0 a).2.1 ≠ (TJ0 b).2.1 := by decide +kernel
theorem tyJ0_ok : ∀ k, k < 0 → parseFieldDescriptor (TJ0 k).2.2.1 = some (tyJ0 k) := by decide +kernel
def RJ7 : String := "java/util/Arrays"
def TJ7 : u_T := fun k => match k with
  | _ => ("", "", "", false)
def tyJ7 : Nat → FieldType := fun k => match k with
  | _ => .int
abbrev wsJ70 : List Cond := u_ws RJ7 TJ7 0
theorem nmJ7 : ∀ a, a < 0 → ∀ b, b < 0 → a ≠ b → (TJ7 a).2.1 ≠ (TJ7 b).2.1 := by decide +kernel
theorem tyJ7_ok : ∀ k, k < 0 → parseFieldDescriptor (TJ7 k).2.2.1 = some (tyJ7 k) := by decide +kernel
abbrev cJ7_fill_53178 : ByteArray := prog_15_method_103_code
def yJ7_fill_53178 : MethodName := ⟨RJ7, "fill", "([II)V"⟩
def RL : String := "CircleCellsLaw"
abbrev cL_site : ByteArray := method_3_code
def yL_site : MethodName := ⟨RL, "site", "(LCircleCells;II[J)I"⟩
abbrev cL_remove : ByteArray := method_4_code
def yL_remove : MethodName := ⟨RL, "remove", "(LCircleCells;I)I"⟩
abbrev cL_move : ByteArray := method_5_code
def yL_move : MethodName := ⟨RL, "move", "(LCircleCells;III)I"⟩
abbrev cL_where : ByteArray := method_6_code
def yL_where : MethodName := ⟨RL, "where", "(LCircleCells;II[J)I"⟩
abbrev cL_cell : ByteArray := method_7_code
def yL_cell : MethodName := ⟨RL, "cell", "(LCircleCells;II[J)I"⟩
abbrev cL_beside : ByteArray := method_8_code
def yL_beside : MethodName := ⟨RL, "beside", "(LCircleCells;II[J)I"⟩
abbrev cL_centre : ByteArray := method_9_code
def yL_centre : MethodName := ⟨RL, "centre", "(LCircleCells;II[J)I"⟩
abbrev cL_hull : ByteArray := method_10_code
def yL_hull : MethodName := ⟨RL, "hull", "(LCircleCells;I[J)I"⟩
abbrev cL_around : ByteArray := method_11_code
def yL_around : MethodName := ⟨RL, "around", "(LCircleCells;II[J)I"⟩
abbrev cL_nearest : ByteArray := method_12_code
def yL_nearest : MethodName := ⟨RL, "nearest", "(LCircleCells;II[J)I"⟩
abbrev cL_law : ByteArray := code
def yL_law : MethodName := ⟨RL, "law", "([I)Z"⟩
def wsX0_init : List Cond := .code yX0_init cX0_init 1 none :: ([.methodLink RX0 1 objectInit, .instanceMethod objectInit, .code objectInit ⟨#[0xb1]⟩ 1 none])
def wsX0_layThrough : List Cond := .code yX0_layThrough cX0_layThrough 17 none :: ([.fieldLink RX0 7 "CircleCells$Sites" "x" "[I", .fieldLink RX0 13 "CircleCells$Circle" "fromX" "I", .fieldLink RX0 19 "CircleCells$Sites" "y" "[I", .fieldLink RX0 22 "CircleCells$Circle" "fromY" "I", .fieldLink RX0 25 "CircleCells$Circle" "aimX" "J", .fieldLink RX0 29 "CircleCells$Circle" "aimY" "J", .constantLong RX0 32 (2), .fieldLink RX0 34 "CircleCells$Circle" "span" "J"] ++ wsX20 ++ wsX00)
def wsX0_power : List Cond := .code yX0_power cX0_power 7 (some .long) :: ([.fieldLink RX0 13 "CircleCells$Circle" "fromX" "I", .fieldLink RX0 22 "CircleCells$Circle" "fromY" "I", .fieldLink RX0 34 "CircleCells$Circle" "span" "J", .constantLong RX0 32 (2), .fieldLink RX0 25 "CircleCells$Circle" "aimX" "J", .fieldLink RX0 29 "CircleCells$Circle" "aimY" "J"] ++ wsX00)
def wsX0_commonDivisor : List Cond := .code yX0_commonDivisor cX0_commonDivisor 7 (some .long) :: ([])
def wsX0_middle : List Cond := .code yX0_middle cX0_middle 10 (some .long) :: ([.fieldLink RX0 13 "CircleCells$Circle" "fromX" "I", .fieldLink RX0 34 "CircleCells$Circle" "span" "J", .fieldLink RX0 25 "CircleCells$Circle" "aimX" "J", .fieldLink RX0 22 "CircleCells$Circle" "fromY" "I", .fieldLink RX0 29 "CircleCells$Circle" "aimY" "J", .methodLink RX0 37 Lib.MathLoose.abs_long.x, .static Lib.MathLoose.abs_long.x, .initialized "java/lang/Math", .code Lib.MathLoose.abs_long.x Lib.MathLoose.abs_long.code 2 (some .long), .methodLink RX0 43 yX0_commonDivisor, .static yX0_commonDivisor, .initialized RX0, .code yX0_commonDivisor cX0_commonDivisor 7 (some .long)] ++ wsX00)
def wsX1_init : List Cond := .code yX1_init cX1_init 2 none :: ([.methodLink RX1 3 objectInit, .instanceMethod objectInit, .code objectInit ⟨#[0xb1]⟩ 1 none, .classLink RX1 9 RX0, .instantiable RX0 5, .initialized RX0, .fieldLink RX1 12 "CircleCells$Mosaic" "circle" "LCircleCells$Circle;", .arrayClass .int, .fieldLink RX1 18 "CircleCells$Mosaic" "ring" "[I", .fieldLink RX1 22 "CircleCells$Mosaic" "start" "[I", .fieldLink RX1 25 "CircleCells$Mosaic" "owner" "[I", .fieldLink RX1 28 "CircleCells$Mosaic" "cellCount" "I", .fieldLink RX1 32 "CircleCells$Mosaic" "rim" "[I", .fieldLink RX1 35 "CircleCells$Mosaic" "rimCount" "I", .fieldLink RX1 38 "CircleCells$Mosaic" "sites" "LCircleCells$Sites;", .instanceMethod yX0_init, .code yX0_init cX0_init 1 none, .methodLink RX0 1 objectInit] ++ wsX00 ++ wsX10)
def wsJ7_fill_53178 : List Cond := .code yJ7_fill_53178 cJ7_fill_53178 4 none :: ([])
def wsX2_turn : List Cond := .code yX2_turn cX2_turn 5 (some .int) :: ([.fieldLink RX2 9 "CircleCells$Sites" "x" "[I", .fieldLink RX2 15 "CircleCells$Sites" "y" "[I"] ++ wsX20)
def wsX2_turn_ : List Cond := .code yX2_turn_ cX2_turn_ 4 (some .int) :: ([.fieldLink RX2 9 "CircleCells$Sites" "x" "[I", .fieldLink RX2 15 "CircleCells$Sites" "y" "[I", .methodLink RX2 30 yX2_turn, .instanceMethod yX2_turn, .selects RX2 yX2_turn yX2_turn, .initialized RX2, .code yX2_turn cX2_turn 5 (some .int)] ++ wsX20)
def wsX1_powerOf : List Cond := .code yX1_powerOf cX1_powerOf 2 (some .long) :: ([.fieldLink RX1 12 "CircleCells$Mosaic" "circle" "LCircleCells$Circle;", .fieldLink RX1 38 "CircleCells$Mosaic" "sites" "LCircleCells$Sites;", .fieldLink RX1 79 "CircleCells$Sites" "x" "[I", .fieldLink RX1 82 "CircleCells$Sites" "y" "[I", .methodLink RX1 85 yX0_power, .instanceMethod yX0_power, .selects RX0 yX0_power yX0_power, .initialized RX0, .code yX0_power cX0_power 7 (some .long), .fieldLink RX0 13 "CircleCells$Circle" "fromX" "I", .fieldLink RX0 22 "CircleCells$Circle" "fromY" "I", .fieldLink RX0 34 "CircleCells$Circle" "span" "J", .constantLong RX0 32 (2), .fieldLink RX0 25 "CircleCells$Circle" "aimX" "J", .fieldLink RX0 29 "CircleCells$Circle" "aimY" "J"] ++ wsX10 ++ wsX20 ++ wsX00)
def wsX1_layLeftOf_r1 : List Cond := [Cond.fieldLink RX1 38 "CircleCells$Mosaic" "sites" "LCircleCells$Sites;", Cond.fieldLink RX1 48 "CircleCells$Sites" "size" "I", Cond.fieldLink RX1 12 "CircleCells$Mosaic" "circle" "LCircleCells$Circle;", Cond.methodLink RX1 67 yX2_turn_, Cond.instanceMethod yX2_turn_, Cond.selects RX2 yX2_turn_ yX2_turn_, Cond.initialized RX2, Cond.code yX2_turn_ cX2_turn_ 4 (some .int), Cond.fieldLink RX2 9 "CircleCells$Sites" "x" "[I", Cond.fieldLink RX2 15 "CircleCells$Sites" "y" "[I", Cond.methodLink RX2 30 yX2_turn, Cond.instanceMethod yX2_turn, Cond.selects RX2 yX2_turn yX2_turn, Cond.code yX2_turn cX2_turn 5 (some .int), Cond.methodLink RX1 71 yX1_powerOf, Cond.instanceMethod yX1_powerOf, Cond.selects RX1 yX1_powerOf yX1_powerOf, Cond.initialized RX1, Cond.code yX1_powerOf cX1_powerOf 2 (some .long), Cond.fieldLink RX1 79 "CircleCells$Sites" "x" "[I", Cond.fieldLink RX1 82 "CircleCells$Sites" "y" "[I", Cond.methodLink RX1 85 yX0_power, Cond.instanceMethod yX0_power, Cond.selects RX0 yX0_power yX0_power]
def wsX1_layLeftOf_r2 : List Cond := [Cond.initialized RX0, Cond.code yX0_power cX0_power 7 (some .long), Cond.fieldLink RX0 13 "CircleCells$Circle" "fromX" "I", Cond.fieldLink RX0 22 "CircleCells$Circle" "fromY" "I", Cond.fieldLink RX0 34 "CircleCells$Circle" "span" "J", Cond.constantLong RX0 32 (2), Cond.fieldLink RX0 25 "CircleCells$Circle" "aimX" "J", Cond.fieldLink RX0 29 "CircleCells$Circle" "aimY" "J", Cond.methodLink RX1 75 yX0_layThrough, Cond.instanceMethod yX0_layThrough, Cond.selects RX0 yX0_layThrough yX0_layThrough, Cond.code yX0_layThrough cX0_layThrough 17 none, Cond.fieldLink RX0 7 "CircleCells$Sites" "x" "[I", Cond.fieldLink RX0 19 "CircleCells$Sites" "y" "[I"]
def wsX1_layLeftOf : List Cond := .code yX1_layLeftOf cX1_layLeftOf 5 (some .boolean) :: ((wsX1_layLeftOf_r1 ++ wsX1_layLeftOf_r2) ++ wsX10 ++ wsX20 ++ wsX00)
def wsX1_beginsCell_r1 : List Cond := [Cond.fieldLink RX1 38 "CircleCells$Mosaic" "sites" "LCircleCells$Sites;", Cond.fieldLink RX1 48 "CircleCells$Sites" "size" "I", Cond.methodLink RX1 71 yX1_powerOf, Cond.instanceMethod yX1_powerOf, Cond.selects RX1 yX1_powerOf yX1_powerOf, Cond.initialized RX1, Cond.code yX1_powerOf cX1_powerOf 2 (some .long), Cond.fieldLink RX1 12 "CircleCells$Mosaic" "circle" "LCircleCells$Circle;", Cond.fieldLink RX1 79 "CircleCells$Sites" "x" "[I", Cond.fieldLink RX1 82 "CircleCells$Sites" "y" "[I", Cond.methodLink RX1 85 yX0_power, Cond.instanceMethod yX0_power, Cond.selects RX0 yX0_power yX0_power, Cond.initialized RX0, Cond.code yX0_power cX0_power 7 (some .long), Cond.fieldLink RX0 13 "CircleCells$Circle" "fromX" "I", Cond.fieldLink RX0 22 "CircleCells$Circle" "fromY" "I", Cond.fieldLink RX0 34 "CircleCells$Circle" "span" "J", Cond.constantLong RX0 32 (2), Cond.fieldLink RX0 25 "CircleCells$Circle" "aimX" "J", Cond.fieldLink RX0 29 "CircleCells$Circle" "aimY" "J", Cond.methodLink RX1 67 yX2_turn_, Cond.instanceMethod yX2_turn_, Cond.selects RX2 yX2_turn_ yX2_turn_]
def wsX1_beginsCell_r2 : List Cond := [Cond.initialized RX2, Cond.code yX2_turn_ cX2_turn_ 4 (some .int), Cond.fieldLink RX2 9 "CircleCells$Sites" "x" "[I", Cond.fieldLink RX2 15 "CircleCells$Sites" "y" "[I", Cond.methodLink RX2 30 yX2_turn, Cond.instanceMethod yX2_turn, Cond.selects RX2 yX2_turn yX2_turn, Cond.code yX2_turn cX2_turn 5 (some .int)]
def wsX1_beginsCell : List Cond := .code yX1_beginsCell cX1_beginsCell 7 (some .boolean) :: ((wsX1_beginsCell_r1 ++ wsX1_beginsCell_r2) ++ wsX10 ++ wsX20 ++ wsX00)
def wsX1_insertRound : List Cond := .code yX1_insertRound cX1_insertRound 5 none :: ([.fieldLink RX1 38 "CircleCells$Mosaic" "sites" "LCircleCells$Sites;", .fieldLink RX1 18 "CircleCells$Mosaic" "ring" "[I", .methodLink RX1 67 yX2_turn_, .instanceMethod yX2_turn_, .selects RX2 yX2_turn_ yX2_turn_, .initialized RX2, .code yX2_turn_ cX2_turn_ 4 (some .int), .fieldLink RX2 9 "CircleCells$Sites" "x" "[I", .fieldLink RX2 15 "CircleCells$Sites" "y" "[I", .methodLink RX2 30 yX2_turn, .instanceMethod yX2_turn, .selects RX2 yX2_turn yX2_turn, .code yX2_turn cX2_turn 5 (some .int)] ++ wsX10 ++ wsX20)
def wsX1_sideCount : List Cond := .code yX1_sideCount cX1_sideCount 2 (some .int) :: ([.fieldLink RX1 22 "CircleCells$Mosaic" "start" "[I"] ++ wsX10)
def wsX1_siteOf : List Cond := .code yX1_siteOf cX1_siteOf 3 (some .int) :: ([.fieldLink RX1 18 "CircleCells$Mosaic" "ring" "[I", .fieldLink RX1 22 "CircleCells$Mosaic" "start" "[I"] ++ wsX10)
def wsX1_siteAfter : List Cond := .code yX1_siteAfter cX1_siteAfter 3 (some .int) :: ([.methodLink RX1 96 yX1_sideCount, .instanceMethod yX1_sideCount, .selects RX1 yX1_sideCount yX1_sideCount, .initialized RX1, .code yX1_sideCount cX1_sideCount 2 (some .int), .fieldLink RX1 22 "CircleCells$Mosaic" "start" "[I", .methodLink RX1 100 yX1_siteOf, .instanceMethod yX1_siteOf, .selects RX1 yX1_siteOf yX1_siteOf, .code yX1_siteOf cX1_siteOf 3 (some .int), .fieldLink RX1 18 "CircleCells$Mosaic" "ring" "[I"] ++ wsX10)
def wsX1_sideKey : List Cond := .code yX1_sideKey cX1_sideKey 2 (some .int) :: ([])
def wsX1_claimSides : List Cond := .code yX1_claimSides cX1_claimSides 4 none :: ([.fieldLink RX1 25 "CircleCells$Mosaic" "owner" "[I", .methodLink RX1 96 yX1_sideCount, .instanceMethod yX1_sideCount, .selects RX1 yX1_sideCount yX1_sideCount, .initialized RX1, .code yX1_sideCount cX1_sideCount 2 (some .int), .fieldLink RX1 22 "CircleCells$Mosaic" "start" "[I", .methodLink RX1 100 yX1_siteOf, .instanceMethod yX1_siteOf, .selects RX1 yX1_siteOf yX1_siteOf, .code yX1_siteOf cX1_siteOf 3 (some .int), .fieldLink RX1 18 "CircleCells$Mosaic" "ring" "[I", .methodLink RX1 104 yX1_siteAfter, .instanceMethod yX1_siteAfter, .selects RX1 yX1_siteAfter yX1_siteAfter, .code yX1_siteAfter cX1_siteAfter 3 (some .int), .methodLink RX1 107 yX1_sideKey, .static yX1_sideKey, .code yX1_sideKey cX1_sideKey 2 (some .int)] ++ wsX10)
def wsX1_addCell_r1 : List Cond := [Cond.fieldLink RX1 28 "CircleCells$Mosaic" "cellCount" "I", Cond.fieldLink RX1 22 "CircleCells$Mosaic" "start" "[I", Cond.fieldLink RX1 38 "CircleCells$Mosaic" "sites" "LCircleCells$Sites;", Cond.fieldLink RX1 48 "CircleCells$Sites" "size" "I", Cond.methodLink RX1 71 yX1_powerOf, Cond.instanceMethod yX1_powerOf, Cond.selects RX1 yX1_powerOf yX1_powerOf, Cond.initialized RX1, Cond.code yX1_powerOf cX1_powerOf 2 (some .long), Cond.fieldLink RX1 12 "CircleCells$Mosaic" "circle" "LCircleCells$Circle;", Cond.fieldLink RX1 79 "CircleCells$Sites" "x" "[I", Cond.fieldLink RX1 82 "CircleCells$Sites" "y" "[I", Cond.methodLink RX1 85 yX0_power, Cond.instanceMethod yX0_power, Cond.selects RX0 yX0_power yX0_power, Cond.initialized RX0, Cond.code yX0_power cX0_power 7 (some .long), Cond.fieldLink RX0 13 "CircleCells$Circle" "fromX" "I", Cond.fieldLink RX0 22 "CircleCells$Circle" "fromY" "I", Cond.fieldLink RX0 34 "CircleCells$Circle" "span" "J", Cond.constantLong RX0 32 (2), Cond.fieldLink RX0 25 "CircleCells$Circle" "aimX" "J", Cond.fieldLink RX0 29 "CircleCells$Circle" "aimY" "J", Cond.methodLink RX1 89 yX1_insertRound]
def wsX1_addCell_r2 : List Cond := [Cond.instanceMethod yX1_insertRound, Cond.selects RX1 yX1_insertRound yX1_insertRound, Cond.code yX1_insertRound cX1_insertRound 5 none, Cond.fieldLink RX1 18 "CircleCells$Mosaic" "ring" "[I", Cond.methodLink RX1 67 yX2_turn_, Cond.instanceMethod yX2_turn_, Cond.selects RX2 yX2_turn_ yX2_turn_, Cond.initialized RX2, Cond.code yX2_turn_ cX2_turn_ 4 (some .int), Cond.fieldLink RX2 9 "CircleCells$Sites" "x" "[I", Cond.fieldLink RX2 15 "CircleCells$Sites" "y" "[I", Cond.methodLink RX2 30 yX2_turn, Cond.instanceMethod yX2_turn, Cond.selects RX2 yX2_turn yX2_turn, Cond.code yX2_turn cX2_turn 5 (some .int), Cond.methodLink RX1 93 yX1_claimSides, Cond.instanceMethod yX1_claimSides, Cond.selects RX1 yX1_claimSides yX1_claimSides, Cond.code yX1_claimSides cX1_claimSides 4 none, Cond.fieldLink RX1 25 "CircleCells$Mosaic" "owner" "[I", Cond.methodLink RX1 96 yX1_sideCount, Cond.instanceMethod yX1_sideCount, Cond.selects RX1 yX1_sideCount yX1_sideCount, Cond.code yX1_sideCount cX1_sideCount 2 (some .int)]
def wsX1_addCell_r3 : List Cond := [Cond.methodLink RX1 100 yX1_siteOf, Cond.instanceMethod yX1_siteOf, Cond.selects RX1 yX1_siteOf yX1_siteOf, Cond.code yX1_siteOf cX1_siteOf 3 (some .int), Cond.methodLink RX1 104 yX1_siteAfter, Cond.instanceMethod yX1_siteAfter, Cond.selects RX1 yX1_siteAfter yX1_siteAfter, Cond.code yX1_siteAfter cX1_siteAfter 3 (some .int), Cond.methodLink RX1 107 yX1_sideKey, Cond.static yX1_sideKey, Cond.code yX1_sideKey cX1_sideKey 2 (some .int)]
def wsX1_addCell : List Cond := .code yX1_addCell cX1_addCell 5 none :: ((wsX1_addCell_r1 ++ (wsX1_addCell_r2 ++ wsX1_addCell_r3)) ++ wsX10 ++ wsX20 ++ wsX00)
def wsX1_nextOnRim : List Cond := .code yX1_nextOnRim cX1_nextOnRim 3 (some .int) :: ([.fieldLink RX1 38 "CircleCells$Mosaic" "sites" "LCircleCells$Sites;", .fieldLink RX1 48 "CircleCells$Sites" "size" "I", .fieldLink RX1 25 "CircleCells$Mosaic" "owner" "[I", .methodLink RX1 107 yX1_sideKey, .static yX1_sideKey, .initialized RX1, .code yX1_sideKey cX1_sideKey 2 (some .int)] ++ wsX10 ++ wsX20)
def wsX1_firstOnRim : List Cond := .code yX1_firstOnRim cX1_firstOnRim 2 (some .int) :: ([.fieldLink RX1 38 "CircleCells$Mosaic" "sites" "LCircleCells$Sites;", .fieldLink RX1 48 "CircleCells$Sites" "size" "I", .methodLink RX1 114 yX1_nextOnRim, .instanceMethod yX1_nextOnRim, .selects RX1 yX1_nextOnRim yX1_nextOnRim, .initialized RX1, .code yX1_nextOnRim cX1_nextOnRim 3 (some .int), .fieldLink RX1 25 "CircleCells$Mosaic" "owner" "[I", .methodLink RX1 107 yX1_sideKey, .static yX1_sideKey, .code yX1_sideKey cX1_sideKey 2 (some .int)] ++ wsX10 ++ wsX20)
def wsX1_walkRim : List Cond := .code yX1_walkRim cX1_walkRim 4 none :: ([.fieldLink RX1 35 "CircleCells$Mosaic" "rimCount" "I", .fieldLink RX1 32 "CircleCells$Mosaic" "rim" "[I", .methodLink RX1 110 yX1_firstOnRim, .instanceMethod yX1_firstOnRim, .selects RX1 yX1_firstOnRim yX1_firstOnRim, .initialized RX1, .code yX1_firstOnRim cX1_firstOnRim 2 (some .int), .fieldLink RX1 38 "CircleCells$Mosaic" "sites" "LCircleCells$Sites;", .fieldLink RX1 48 "CircleCells$Sites" "size" "I", .methodLink RX1 114 yX1_nextOnRim, .instanceMethod yX1_nextOnRim, .selects RX1 yX1_nextOnRim yX1_nextOnRim, .code yX1_nextOnRim cX1_nextOnRim 3 (some .int), .fieldLink RX1 25 "CircleCells$Mosaic" "owner" "[I", .methodLink RX1 107 yX1_sideKey, .static yX1_sideKey, .code yX1_sideKey cX1_sideKey 2 (some .int)] ++ wsX10 ++ wsX20)
def wsX1_build_r1 : List Cond := [Cond.fieldLink RX1 28 "CircleCells$Mosaic" "cellCount" "I", Cond.fieldLink RX1 25 "CircleCells$Mosaic" "owner" "[I", Cond.fieldLink RX1 38 "CircleCells$Mosaic" "sites" "LCircleCells$Sites;", Cond.fieldLink RX1 48 "CircleCells$Sites" "size" "I", Cond.methodLink RX1 42 yJ7_fill_53178, Cond.static yJ7_fill_53178, Cond.initialized RJ7, Cond.code yJ7_fill_53178 cJ7_fill_53178 4 none, Cond.methodLink RX1 53 yX1_layLeftOf, Cond.instanceMethod yX1_layLeftOf, Cond.selects RX1 yX1_layLeftOf yX1_layLeftOf, Cond.initialized RX1, Cond.code yX1_layLeftOf cX1_layLeftOf 5 (some .boolean), Cond.fieldLink RX1 12 "CircleCells$Mosaic" "circle" "LCircleCells$Circle;", Cond.methodLink RX1 67 yX2_turn_, Cond.instanceMethod yX2_turn_, Cond.selects RX2 yX2_turn_ yX2_turn_, Cond.initialized RX2, Cond.code yX2_turn_ cX2_turn_ 4 (some .int), Cond.fieldLink RX2 9 "CircleCells$Sites" "x" "[I", Cond.fieldLink RX2 15 "CircleCells$Sites" "y" "[I", Cond.methodLink RX2 30 yX2_turn, Cond.instanceMethod yX2_turn, Cond.selects RX2 yX2_turn yX2_turn]
def wsX1_build_r2 : List Cond := [Cond.code yX2_turn cX2_turn 5 (some .int), Cond.methodLink RX1 71 yX1_powerOf, Cond.instanceMethod yX1_powerOf, Cond.selects RX1 yX1_powerOf yX1_powerOf, Cond.code yX1_powerOf cX1_powerOf 2 (some .long), Cond.fieldLink RX1 79 "CircleCells$Sites" "x" "[I", Cond.fieldLink RX1 82 "CircleCells$Sites" "y" "[I", Cond.methodLink RX1 85 yX0_power, Cond.instanceMethod yX0_power, Cond.selects RX0 yX0_power yX0_power, Cond.initialized RX0, Cond.code yX0_power cX0_power 7 (some .long), Cond.fieldLink RX0 13 "CircleCells$Circle" "fromX" "I", Cond.fieldLink RX0 22 "CircleCells$Circle" "fromY" "I", Cond.fieldLink RX0 34 "CircleCells$Circle" "span" "J", Cond.constantLong RX0 32 (2), Cond.fieldLink RX0 25 "CircleCells$Circle" "aimX" "J", Cond.fieldLink RX0 29 "CircleCells$Circle" "aimY" "J", Cond.methodLink RX1 75 yX0_layThrough, Cond.instanceMethod yX0_layThrough, Cond.selects RX0 yX0_layThrough yX0_layThrough, Cond.code yX0_layThrough cX0_layThrough 17 none, Cond.fieldLink RX0 7 "CircleCells$Sites" "x" "[I", Cond.fieldLink RX0 19 "CircleCells$Sites" "y" "[I"]
def wsX1_build_r3 : List Cond := [Cond.methodLink RX1 57 yX1_beginsCell, Cond.instanceMethod yX1_beginsCell, Cond.selects RX1 yX1_beginsCell yX1_beginsCell, Cond.code yX1_beginsCell cX1_beginsCell 7 (some .boolean), Cond.methodLink RX1 60 yX1_addCell, Cond.instanceMethod yX1_addCell, Cond.selects RX1 yX1_addCell yX1_addCell, Cond.code yX1_addCell cX1_addCell 5 none, Cond.fieldLink RX1 22 "CircleCells$Mosaic" "start" "[I", Cond.methodLink RX1 89 yX1_insertRound, Cond.instanceMethod yX1_insertRound, Cond.selects RX1 yX1_insertRound yX1_insertRound, Cond.code yX1_insertRound cX1_insertRound 5 none, Cond.fieldLink RX1 18 "CircleCells$Mosaic" "ring" "[I", Cond.methodLink RX1 93 yX1_claimSides, Cond.instanceMethod yX1_claimSides, Cond.selects RX1 yX1_claimSides yX1_claimSides, Cond.code yX1_claimSides cX1_claimSides 4 none, Cond.methodLink RX1 96 yX1_sideCount, Cond.instanceMethod yX1_sideCount, Cond.selects RX1 yX1_sideCount yX1_sideCount, Cond.code yX1_sideCount cX1_sideCount 2 (some .int), Cond.methodLink RX1 100 yX1_siteOf, Cond.instanceMethod yX1_siteOf]
def wsX1_build_r4 : List Cond := [Cond.selects RX1 yX1_siteOf yX1_siteOf, Cond.code yX1_siteOf cX1_siteOf 3 (some .int), Cond.methodLink RX1 104 yX1_siteAfter, Cond.instanceMethod yX1_siteAfter, Cond.selects RX1 yX1_siteAfter yX1_siteAfter, Cond.code yX1_siteAfter cX1_siteAfter 3 (some .int), Cond.methodLink RX1 107 yX1_sideKey, Cond.static yX1_sideKey, Cond.code yX1_sideKey cX1_sideKey 2 (some .int), Cond.methodLink RX1 64 yX1_walkRim, Cond.instanceMethod yX1_walkRim, Cond.selects RX1 yX1_walkRim yX1_walkRim, Cond.code yX1_walkRim cX1_walkRim 4 none, Cond.fieldLink RX1 35 "CircleCells$Mosaic" "rimCount" "I", Cond.fieldLink RX1 32 "CircleCells$Mosaic" "rim" "[I", Cond.methodLink RX1 110 yX1_firstOnRim, Cond.instanceMethod yX1_firstOnRim, Cond.selects RX1 yX1_firstOnRim yX1_firstOnRim, Cond.code yX1_firstOnRim cX1_firstOnRim 2 (some .int), Cond.methodLink RX1 114 yX1_nextOnRim, Cond.instanceMethod yX1_nextOnRim, Cond.selects RX1 yX1_nextOnRim yX1_nextOnRim, Cond.code yX1_nextOnRim cX1_nextOnRim 3 (some .int)]
def wsX1_build : List Cond := .code yX1_build cX1_build 3 none :: ((wsX1_build_r1 ++ (wsX1_build_r2 ++ (wsX1_build_r3 ++ wsX1_build_r4))) ++ wsX10 ++ wsX20 ++ wsX00)
def wsX1_across : List Cond := .code yX1_across cX1_across 3 (some .int) :: ([.fieldLink RX1 25 "CircleCells$Mosaic" "owner" "[I", .methodLink RX1 104 yX1_siteAfter, .instanceMethod yX1_siteAfter, .selects RX1 yX1_siteAfter yX1_siteAfter, .initialized RX1, .code yX1_siteAfter cX1_siteAfter 3 (some .int), .methodLink RX1 96 yX1_sideCount, .instanceMethod yX1_sideCount, .selects RX1 yX1_sideCount yX1_sideCount, .code yX1_sideCount cX1_sideCount 2 (some .int), .fieldLink RX1 22 "CircleCells$Mosaic" "start" "[I", .methodLink RX1 100 yX1_siteOf, .instanceMethod yX1_siteOf, .selects RX1 yX1_siteOf yX1_siteOf, .code yX1_siteOf cX1_siteOf 3 (some .int), .fieldLink RX1 18 "CircleCells$Mosaic" "ring" "[I", .methodLink RX1 107 yX1_sideKey, .static yX1_sideKey, .code yX1_sideKey cX1_sideKey 2 (some .int)] ++ wsX10)
def wsX1_circleOf : List Cond := .code yX1_circleOf cX1_circleOf 2 (some (.object "CircleCells$Circle")) :: ([.fieldLink RX1 12 "CircleCells$Mosaic" "circle" "LCircleCells$Circle;", .fieldLink RX1 38 "CircleCells$Mosaic" "sites" "LCircleCells$Sites;", .methodLink RX1 100 yX1_siteOf, .instanceMethod yX1_siteOf, .selects RX1 yX1_siteOf yX1_siteOf, .initialized RX1, .code yX1_siteOf cX1_siteOf 3 (some .int), .fieldLink RX1 18 "CircleCells$Mosaic" "ring" "[I", .fieldLink RX1 22 "CircleCells$Mosaic" "start" "[I", .methodLink RX1 75 yX0_layThrough, .instanceMethod yX0_layThrough, .selects RX0 yX0_layThrough yX0_layThrough, .initialized RX0, .code yX0_layThrough cX0_layThrough 17 none, .fieldLink RX0 7 "CircleCells$Sites" "x" "[I", .fieldLink RX0 13 "CircleCells$Circle" "fromX" "I", .fieldLink RX0 19 "CircleCells$Sites" "y" "[I", .fieldLink RX0 22 "CircleCells$Circle" "fromY" "I", .fieldLink RX0 25 "CircleCells$Circle" "aimX" "J", .fieldLink RX0 29 "CircleCells$Circle" "aimY" "J", .constantLong RX0 32 (2), .fieldLink RX0 34 "CircleCells$Circle" "span" "J"] ++ wsX10 ++ wsX20 ++ wsX00)
def wsX1_holds : List Cond := .code yX1_holds cX1_holds 6 (some .boolean) :: ([.fieldLink RX1 38 "CircleCells$Mosaic" "sites" "LCircleCells$Sites;", .methodLink RX1 96 yX1_sideCount, .instanceMethod yX1_sideCount, .selects RX1 yX1_sideCount yX1_sideCount, .initialized RX1, .code yX1_sideCount cX1_sideCount 2 (some .int), .fieldLink RX1 22 "CircleCells$Mosaic" "start" "[I", .methodLink RX1 100 yX1_siteOf, .instanceMethod yX1_siteOf, .selects RX1 yX1_siteOf yX1_siteOf, .code yX1_siteOf cX1_siteOf 3 (some .int), .fieldLink RX1 18 "CircleCells$Mosaic" "ring" "[I", .methodLink RX1 104 yX1_siteAfter, .instanceMethod yX1_siteAfter, .selects RX1 yX1_siteAfter yX1_siteAfter, .code yX1_siteAfter cX1_siteAfter 3 (some .int), .methodLink RX1 121 yX2_turn, .instanceMethod yX2_turn, .selects RX2 yX2_turn yX2_turn, .initialized RX2, .code yX2_turn cX2_turn 5 (some .int), .fieldLink RX2 9 "CircleCells$Sites" "x" "[I", .fieldLink RX2 15 "CircleCells$Sites" "y" "[I"] ++ wsX10 ++ wsX20)
def wsX1_firstWith_r1 : List Cond := [Cond.fieldLink RX1 28 "CircleCells$Mosaic" "cellCount" "I", Cond.methodLink RX1 117 yX1_holds, Cond.instanceMethod yX1_holds, Cond.selects RX1 yX1_holds yX1_holds, Cond.initialized RX1, Cond.code yX1_holds cX1_holds 6 (some .boolean), Cond.fieldLink RX1 38 "CircleCells$Mosaic" "sites" "LCircleCells$Sites;", Cond.methodLink RX1 96 yX1_sideCount, Cond.instanceMethod yX1_sideCount, Cond.selects RX1 yX1_sideCount yX1_sideCount, Cond.code yX1_sideCount cX1_sideCount 2 (some .int), Cond.fieldLink RX1 22 "CircleCells$Mosaic" "start" "[I", Cond.methodLink RX1 100 yX1_siteOf, Cond.instanceMethod yX1_siteOf, Cond.selects RX1 yX1_siteOf yX1_siteOf, Cond.code yX1_siteOf cX1_siteOf 3 (some .int), Cond.fieldLink RX1 18 "CircleCells$Mosaic" "ring" "[I", Cond.methodLink RX1 104 yX1_siteAfter, Cond.instanceMethod yX1_siteAfter, Cond.selects RX1 yX1_siteAfter yX1_siteAfter, Cond.code yX1_siteAfter cX1_siteAfter 3 (some .int), Cond.methodLink RX1 121 yX2_turn, Cond.instanceMethod yX2_turn, Cond.selects RX2 yX2_turn yX2_turn]
def wsX1_firstWith_r2 : List Cond := [Cond.initialized RX2, Cond.code yX2_turn cX2_turn 5 (some .int), Cond.fieldLink RX2 9 "CircleCells$Sites" "x" "[I", Cond.fieldLink RX2 15 "CircleCells$Sites" "y" "[I"]
def wsX1_firstWith : List Cond := .code yX1_firstWith cX1_firstWith 4 (some .int) :: ((wsX1_firstWith_r1 ++ wsX1_firstWith_r2) ++ wsX10 ++ wsX20)
def wsX2_init : List Cond := .code yX2_init cX2_init 1 none :: ([.methodLink RX2 3 objectInit, .instanceMethod objectInit, .code objectInit ⟨#[0xb1]⟩ 1 none, .arrayClass .int, .fieldLink RX2 9 "CircleCells$Sites" "x" "[I", .fieldLink RX2 15 "CircleCells$Sites" "y" "[I", .fieldLink RX2 18 "CircleCells$Sites" "size" "I"] ++ wsX20)
def wsX2_put : List Cond := .code yX2_put cX2_put 4 none :: ([.fieldLink RX2 9 "CircleCells$Sites" "x" "[I", .fieldLink RX2 15 "CircleCells$Sites" "y" "[I"] ++ wsX20)
def wsX2_append : List Cond := .code yX2_append cX2_append 4 (some .int) :: ([.fieldLink RX2 18 "CircleCells$Sites" "size" "I", .methodLink RX2 22 yX2_put, .instanceMethod yX2_put, .selects RX2 yX2_put yX2_put, .initialized RX2, .code yX2_put cX2_put 4 none, .fieldLink RX2 9 "CircleCells$Sites" "x" "[I", .fieldLink RX2 15 "CircleCells$Sites" "y" "[I"] ++ wsX20)
def wsX2_drop : List Cond := .code yX2_drop cX2_drop 3 none :: ([.fieldLink RX2 18 "CircleCells$Sites" "size" "I", .fieldLink RX2 9 "CircleCells$Sites" "x" "[I", .fieldLink RX2 15 "CircleCells$Sites" "y" "[I", .methodLink RX2 22 yX2_put, .instanceMethod yX2_put, .selects RX2 yX2_put yX2_put, .initialized RX2, .code yX2_put cX2_put 4 none] ++ wsX20)
def wsX2_dropAll : List Cond := .code yX2_dropAll cX2_dropAll 1 none :: ([.fieldLink RX2 18 "CircleCells$Sites" "size" "I"] ++ wsX20)
def wsX2_numberAt : List Cond := .code yX2_numberAt cX2_numberAt 4 (some .int) :: ([.fieldLink RX2 18 "CircleCells$Sites" "size" "I", .fieldLink RX2 9 "CircleCells$Sites" "x" "[I", .fieldLink RX2 15 "CircleCells$Sites" "y" "[I"] ++ wsX20)
def wsX2_squareTo : List Cond := .code yX2_squareTo cX2_squareTo 6 (some .int) :: ([.fieldLink RX2 9 "CircleCells$Sites" "x" "[I", .fieldLink RX2 15 "CircleCells$Sites" "y" "[I"] ++ wsX20)
def wsX2_closestTo : List Cond := .code yX2_closestTo cX2_closestTo 5 (some .int) :: ([.fieldLink RX2 18 "CircleCells$Sites" "size" "I", .methodLink RX2 26 yX2_squareTo, .instanceMethod yX2_squareTo, .selects RX2 yX2_squareTo yX2_squareTo, .initialized RX2, .code yX2_squareTo cX2_squareTo 6 (some .int), .fieldLink RX2 9 "CircleCells$Sites" "x" "[I", .fieldLink RX2 15 "CircleCells$Sites" "y" "[I"] ++ wsX20)
def wsX3_init_r1 : List Cond := [Cond.methodLink RX3 3 objectInit, Cond.instanceMethod objectInit, Cond.code objectInit ⟨#[0xb1]⟩ 1 none, Cond.classLink RX3 9 RX2, Cond.instantiable RX2 3, Cond.initialized RX2, Cond.fieldLink RX3 12 "CircleCells" "sites" "LCircleCells$Sites;", Cond.classLink RX3 16 RX1, Cond.instantiable RX1 8, Cond.initialized RX1, Cond.fieldLink RX3 21 "CircleCells" "mosaic" "LCircleCells$Mosaic;", Cond.fieldLink RX3 25 "CircleCells" "stale" "Z", Cond.instanceMethod yX2_init, Cond.code yX2_init cX2_init 1 none, Cond.methodLink RX2 3 objectInit, Cond.arrayClass .int, Cond.fieldLink RX2 9 "CircleCells$Sites" "x" "[I", Cond.fieldLink RX2 15 "CircleCells$Sites" "y" "[I", Cond.fieldLink RX2 18 "CircleCells$Sites" "size" "I", Cond.methodLink RX3 18 yX1_init, Cond.instanceMethod yX1_init, Cond.code yX1_init cX1_init 2 none, Cond.methodLink RX1 3 objectInit, Cond.classLink RX1 9 RX0]
def wsX3_init_r2 : List Cond := [Cond.instantiable RX0 5, Cond.initialized RX0, Cond.fieldLink RX1 12 "CircleCells$Mosaic" "circle" "LCircleCells$Circle;", Cond.fieldLink RX1 18 "CircleCells$Mosaic" "ring" "[I", Cond.fieldLink RX1 22 "CircleCells$Mosaic" "start" "[I", Cond.fieldLink RX1 25 "CircleCells$Mosaic" "owner" "[I", Cond.fieldLink RX1 28 "CircleCells$Mosaic" "cellCount" "I", Cond.fieldLink RX1 32 "CircleCells$Mosaic" "rim" "[I", Cond.fieldLink RX1 35 "CircleCells$Mosaic" "rimCount" "I", Cond.fieldLink RX1 38 "CircleCells$Mosaic" "sites" "LCircleCells$Sites;", Cond.instanceMethod yX0_init, Cond.code yX0_init cX0_init 1 none, Cond.methodLink RX0 1 objectInit]
def wsX3_init : List Cond := .code yX3_init cX3_init 1 none :: ((wsX3_init_r1 ++ wsX3_init_r2) ++ wsX20 ++ wsX30 ++ wsX10 ++ wsX00)
def wsX3_requirePlace : List Cond := .code yX3_requirePlace cX3_requirePlace 2 none :: ([.classLink RX3 37 "java/lang/IllegalArgumentException", .initialized "java/lang/IllegalArgumentException"] ++ (vx_atS RX3 41 "java/lang/IllegalArgumentException" ["java/lang/RuntimeException", "java/lang/Exception"]).filter goodWord)
def wsX3_site_r1 : List Cond := [Cond.classLink RX3 37 "java/lang/IllegalArgumentException", Cond.initialized "java/lang/IllegalArgumentException", Cond.classLink RX3 48 "java/lang/IllegalStateException", Cond.initialized "java/lang/IllegalStateException", Cond.fieldLink RX3 12 "CircleCells" "sites" "LCircleCells$Sites;", Cond.fieldLink RX3 44 "CircleCells$Sites" "size" "I", Cond.fieldLink RX3 25 "CircleCells" "stale" "Z", Cond.methodLink RX3 29 yX3_requirePlace, Cond.static yX3_requirePlace, Cond.initialized RX3, Cond.code yX3_requirePlace cX3_requirePlace 2 none, Cond.methodLink RX3 33 yX2_numberAt, Cond.instanceMethod yX2_numberAt, Cond.selects RX2 yX2_numberAt yX2_numberAt, Cond.initialized RX2, Cond.code yX2_numberAt cX2_numberAt 4 (some .int), Cond.fieldLink RX2 18 "CircleCells$Sites" "size" "I", Cond.fieldLink RX2 9 "CircleCells$Sites" "x" "[I", Cond.fieldLink RX2 15 "CircleCells$Sites" "y" "[I", Cond.methodLink RX3 53 yX2_append, Cond.instanceMethod yX2_append, Cond.selects RX2 yX2_append yX2_append, Cond.code yX2_append cX2_append 4 (some .int), Cond.methodLink RX2 22 yX2_put]
def wsX3_site_r2 : List Cond := [Cond.instanceMethod yX2_put, Cond.selects RX2 yX2_put yX2_put, Cond.code yX2_put cX2_put 4 none]
def wsX3_site : List Cond := .code yX3_site cX3_site 3 (some .int) :: ((wsX3_site_r1 ++ wsX3_site_r2) ++ wsX30 ++ wsX20 ++ (vx_atS RX3 41 "java/lang/IllegalArgumentException" ["java/lang/RuntimeException", "java/lang/Exception"]).filter goodWord ++ (vx_atS RX3 52 "java/lang/IllegalStateException" ["java/lang/RuntimeException", "java/lang/Exception"]).filter goodWord)
def wsX3_requireSite : List Cond := .code yX3_requireSite cX3_requireSite 2 none :: ([.classLink RX3 37 "java/lang/IllegalArgumentException", .initialized "java/lang/IllegalArgumentException", .fieldLink RX3 12 "CircleCells" "sites" "LCircleCells$Sites;", .fieldLink RX3 44 "CircleCells$Sites" "size" "I"] ++ wsX30 ++ wsX20 ++ (vx_atS RX3 41 "java/lang/IllegalArgumentException" ["java/lang/RuntimeException", "java/lang/Exception"]).filter goodWord)
def wsX3_remove : List Cond := .code yX3_remove cX3_remove 2 none :: ([.fieldLink RX3 25 "CircleCells" "stale" "Z", .fieldLink RX3 12 "CircleCells" "sites" "LCircleCells$Sites;", .methodLink RX3 56 yX3_requireSite, .instanceMethod yX3_requireSite, .selects RX3 yX3_requireSite yX3_requireSite, .initialized RX3, .code yX3_requireSite cX3_requireSite 2 none, .classLink RX3 37 "java/lang/IllegalArgumentException", .initialized "java/lang/IllegalArgumentException", .fieldLink RX3 44 "CircleCells$Sites" "size" "I", .methodLink RX3 60 yX2_drop, .instanceMethod yX2_drop, .selects RX2 yX2_drop yX2_drop, .initialized RX2, .code yX2_drop cX2_drop 3 none, .fieldLink RX2 18 "CircleCells$Sites" "size" "I", .fieldLink RX2 9 "CircleCells$Sites" "x" "[I", .fieldLink RX2 15 "CircleCells$Sites" "y" "[I", .methodLink RX2 22 yX2_put, .instanceMethod yX2_put, .selects RX2 yX2_put yX2_put, .code yX2_put cX2_put 4 none] ++ wsX30 ++ wsX20 ++ (vx_atS RX3 41 "java/lang/IllegalArgumentException" ["java/lang/RuntimeException", "java/lang/Exception"]).filter goodWord)
def wsX3_move_r1 : List Cond := [Cond.classLink RX3 37 "java/lang/IllegalArgumentException", Cond.initialized "java/lang/IllegalArgumentException", Cond.fieldLink RX3 12 "CircleCells" "sites" "LCircleCells$Sites;", Cond.fieldLink RX3 25 "CircleCells" "stale" "Z", Cond.methodLink RX3 56 yX3_requireSite, Cond.instanceMethod yX3_requireSite, Cond.selects RX3 yX3_requireSite yX3_requireSite, Cond.initialized RX3, Cond.code yX3_requireSite cX3_requireSite 2 none, Cond.fieldLink RX3 44 "CircleCells$Sites" "size" "I", Cond.methodLink RX3 29 yX3_requirePlace, Cond.static yX3_requirePlace, Cond.code yX3_requirePlace cX3_requirePlace 2 none, Cond.methodLink RX3 33 yX2_numberAt, Cond.instanceMethod yX2_numberAt, Cond.selects RX2 yX2_numberAt yX2_numberAt, Cond.initialized RX2, Cond.code yX2_numberAt cX2_numberAt 4 (some .int), Cond.fieldLink RX2 18 "CircleCells$Sites" "size" "I", Cond.fieldLink RX2 9 "CircleCells$Sites" "x" "[I", Cond.fieldLink RX2 15 "CircleCells$Sites" "y" "[I", Cond.methodLink RX3 65 yX2_put, Cond.instanceMethod yX2_put, Cond.selects RX2 yX2_put yX2_put]
def wsX3_move_r2 : List Cond := [Cond.code yX2_put cX2_put 4 none]
def wsX3_move : List Cond := .code yX3_move cX3_move 5 none :: ((wsX3_move_r1 ++ wsX3_move_r2) ++ wsX30 ++ wsX20 ++ (vx_atS RX3 41 "java/lang/IllegalArgumentException" ["java/lang/RuntimeException", "java/lang/Exception"]).filter goodWord)
def wsX3_clear : List Cond := .code yX3_clear cX3_clear 1 none :: ([.fieldLink RX3 25 "CircleCells" "stale" "Z", .fieldLink RX3 12 "CircleCells" "sites" "LCircleCells$Sites;", .methodLink RX3 69 yX2_dropAll, .instanceMethod yX2_dropAll, .selects RX2 yX2_dropAll yX2_dropAll, .initialized RX2, .code yX2_dropAll cX2_dropAll 1 none, .fieldLink RX2 18 "CircleCells$Sites" "size" "I"] ++ wsX30 ++ wsX20)
def wsX3_where : List Cond := .code yX3_where cX3_where 3 (some .int) :: ([.classLink RX3 37 "java/lang/IllegalArgumentException", .initialized "java/lang/IllegalArgumentException", .fieldLink RX3 12 "CircleCells" "sites" "LCircleCells$Sites;", .fieldLink RX3 74 "CircleCells$Sites" "x" "[I", .fieldLink RX3 78 "CircleCells$Sites" "y" "[I", .methodLink RX3 56 yX3_requireSite, .instanceMethod yX3_requireSite, .selects RX3 yX3_requireSite yX3_requireSite, .initialized RX3, .code yX3_requireSite cX3_requireSite 2 none, .fieldLink RX3 44 "CircleCells$Sites" "size" "I"] ++ wsX30 ++ wsX20 ++ (vx_atS RX3 41 "java/lang/IllegalArgumentException" ["java/lang/RuntimeException", "java/lang/Exception"]).filter goodWord)
def wsX3_refresh_r1 : List Cond := [Cond.fieldLink RX3 25 "CircleCells" "stale" "Z", Cond.fieldLink RX3 21 "CircleCells" "mosaic" "LCircleCells$Mosaic;", Cond.methodLink RX3 143 yX1_build, Cond.instanceMethod yX1_build, Cond.selects RX1 yX1_build yX1_build, Cond.initialized RX1, Cond.code yX1_build cX1_build 3 none, Cond.fieldLink RX1 28 "CircleCells$Mosaic" "cellCount" "I", Cond.fieldLink RX1 25 "CircleCells$Mosaic" "owner" "[I", Cond.fieldLink RX1 38 "CircleCells$Mosaic" "sites" "LCircleCells$Sites;", Cond.fieldLink RX1 48 "CircleCells$Sites" "size" "I", Cond.methodLink RX1 42 yJ7_fill_53178, Cond.static yJ7_fill_53178, Cond.initialized RJ7, Cond.code yJ7_fill_53178 cJ7_fill_53178 4 none, Cond.methodLink RX1 53 yX1_layLeftOf, Cond.instanceMethod yX1_layLeftOf, Cond.selects RX1 yX1_layLeftOf yX1_layLeftOf, Cond.code yX1_layLeftOf cX1_layLeftOf 5 (some .boolean), Cond.fieldLink RX1 12 "CircleCells$Mosaic" "circle" "LCircleCells$Circle;", Cond.methodLink RX1 67 yX2_turn_, Cond.instanceMethod yX2_turn_, Cond.selects RX2 yX2_turn_ yX2_turn_, Cond.initialized RX2]
def wsX3_refresh_r2 : List Cond := [Cond.code yX2_turn_ cX2_turn_ 4 (some .int), Cond.fieldLink RX2 9 "CircleCells$Sites" "x" "[I", Cond.fieldLink RX2 15 "CircleCells$Sites" "y" "[I", Cond.methodLink RX2 30 yX2_turn, Cond.instanceMethod yX2_turn, Cond.selects RX2 yX2_turn yX2_turn, Cond.code yX2_turn cX2_turn 5 (some .int), Cond.methodLink RX1 71 yX1_powerOf, Cond.instanceMethod yX1_powerOf, Cond.selects RX1 yX1_powerOf yX1_powerOf, Cond.code yX1_powerOf cX1_powerOf 2 (some .long), Cond.fieldLink RX1 79 "CircleCells$Sites" "x" "[I", Cond.fieldLink RX1 82 "CircleCells$Sites" "y" "[I", Cond.methodLink RX1 85 yX0_power, Cond.instanceMethod yX0_power, Cond.selects RX0 yX0_power yX0_power, Cond.initialized RX0, Cond.code yX0_power cX0_power 7 (some .long), Cond.fieldLink RX0 13 "CircleCells$Circle" "fromX" "I", Cond.fieldLink RX0 22 "CircleCells$Circle" "fromY" "I", Cond.fieldLink RX0 34 "CircleCells$Circle" "span" "J", Cond.constantLong RX0 32 (2), Cond.fieldLink RX0 25 "CircleCells$Circle" "aimX" "J", Cond.fieldLink RX0 29 "CircleCells$Circle" "aimY" "J"]
def wsX3_refresh_r3 : List Cond := [Cond.methodLink RX1 75 yX0_layThrough, Cond.instanceMethod yX0_layThrough, Cond.selects RX0 yX0_layThrough yX0_layThrough, Cond.code yX0_layThrough cX0_layThrough 17 none, Cond.fieldLink RX0 7 "CircleCells$Sites" "x" "[I", Cond.fieldLink RX0 19 "CircleCells$Sites" "y" "[I", Cond.methodLink RX1 57 yX1_beginsCell, Cond.instanceMethod yX1_beginsCell, Cond.selects RX1 yX1_beginsCell yX1_beginsCell, Cond.code yX1_beginsCell cX1_beginsCell 7 (some .boolean), Cond.methodLink RX1 60 yX1_addCell, Cond.instanceMethod yX1_addCell, Cond.selects RX1 yX1_addCell yX1_addCell, Cond.code yX1_addCell cX1_addCell 5 none, Cond.fieldLink RX1 22 "CircleCells$Mosaic" "start" "[I", Cond.methodLink RX1 89 yX1_insertRound, Cond.instanceMethod yX1_insertRound, Cond.selects RX1 yX1_insertRound yX1_insertRound, Cond.code yX1_insertRound cX1_insertRound 5 none, Cond.fieldLink RX1 18 "CircleCells$Mosaic" "ring" "[I", Cond.methodLink RX1 93 yX1_claimSides, Cond.instanceMethod yX1_claimSides, Cond.selects RX1 yX1_claimSides yX1_claimSides, Cond.code yX1_claimSides cX1_claimSides 4 none]
def wsX3_refresh_r4 : List Cond := [Cond.methodLink RX1 96 yX1_sideCount, Cond.instanceMethod yX1_sideCount, Cond.selects RX1 yX1_sideCount yX1_sideCount, Cond.code yX1_sideCount cX1_sideCount 2 (some .int), Cond.methodLink RX1 100 yX1_siteOf, Cond.instanceMethod yX1_siteOf, Cond.selects RX1 yX1_siteOf yX1_siteOf, Cond.code yX1_siteOf cX1_siteOf 3 (some .int), Cond.methodLink RX1 104 yX1_siteAfter, Cond.instanceMethod yX1_siteAfter, Cond.selects RX1 yX1_siteAfter yX1_siteAfter, Cond.code yX1_siteAfter cX1_siteAfter 3 (some .int), Cond.methodLink RX1 107 yX1_sideKey, Cond.static yX1_sideKey, Cond.code yX1_sideKey cX1_sideKey 2 (some .int), Cond.methodLink RX1 64 yX1_walkRim, Cond.instanceMethod yX1_walkRim, Cond.selects RX1 yX1_walkRim yX1_walkRim, Cond.code yX1_walkRim cX1_walkRim 4 none, Cond.fieldLink RX1 35 "CircleCells$Mosaic" "rimCount" "I", Cond.fieldLink RX1 32 "CircleCells$Mosaic" "rim" "[I", Cond.methodLink RX1 110 yX1_firstOnRim, Cond.instanceMethod yX1_firstOnRim, Cond.selects RX1 yX1_firstOnRim yX1_firstOnRim]
def wsX3_refresh_r5 : List Cond := [Cond.code yX1_firstOnRim cX1_firstOnRim 2 (some .int), Cond.methodLink RX1 114 yX1_nextOnRim, Cond.instanceMethod yX1_nextOnRim, Cond.selects RX1 yX1_nextOnRim yX1_nextOnRim, Cond.code yX1_nextOnRim cX1_nextOnRim 3 (some .int)]
def wsX3_refresh : List Cond := .code yX3_refresh cX3_refresh 1 none :: ((wsX3_refresh_r1 ++ (wsX3_refresh_r2 ++ (wsX3_refresh_r3 ++ (wsX3_refresh_r4 ++ wsX3_refresh_r5)))) ++ wsX30 ++ wsX10 ++ wsX20 ++ wsX00)
def wsX3_cells_r1 : List Cond := [Cond.fieldLink RX3 21 "CircleCells" "mosaic" "LCircleCells$Mosaic;", Cond.fieldLink RX3 84 "CircleCells$Mosaic" "cellCount" "I", Cond.methodLink RX3 81 yX3_refresh, Cond.instanceMethod yX3_refresh, Cond.selects RX3 yX3_refresh yX3_refresh, Cond.initialized RX3, Cond.code yX3_refresh cX3_refresh 1 none, Cond.fieldLink RX3 25 "CircleCells" "stale" "Z", Cond.methodLink RX3 143 yX1_build, Cond.instanceMethod yX1_build, Cond.selects RX1 yX1_build yX1_build, Cond.initialized RX1, Cond.code yX1_build cX1_build 3 none, Cond.fieldLink RX1 28 "CircleCells$Mosaic" "cellCount" "I", Cond.fieldLink RX1 25 "CircleCells$Mosaic" "owner" "[I", Cond.fieldLink RX1 38 "CircleCells$Mosaic" "sites" "LCircleCells$Sites;", Cond.fieldLink RX1 48 "CircleCells$Sites" "size" "I", Cond.methodLink RX1 42 yJ7_fill_53178, Cond.static yJ7_fill_53178, Cond.initialized RJ7, Cond.code yJ7_fill_53178 cJ7_fill_53178 4 none, Cond.methodLink RX1 53 yX1_layLeftOf, Cond.instanceMethod yX1_layLeftOf, Cond.selects RX1 yX1_layLeftOf yX1_layLeftOf]
def wsX3_cells_r2 : List Cond := [Cond.code yX1_layLeftOf cX1_layLeftOf 5 (some .boolean), Cond.fieldLink RX1 12 "CircleCells$Mosaic" "circle" "LCircleCells$Circle;", Cond.methodLink RX1 67 yX2_turn_, Cond.instanceMethod yX2_turn_, Cond.selects RX2 yX2_turn_ yX2_turn_, Cond.initialized RX2, Cond.code yX2_turn_ cX2_turn_ 4 (some .int), Cond.fieldLink RX2 9 "CircleCells$Sites" "x" "[I", Cond.fieldLink RX2 15 "CircleCells$Sites" "y" "[I", Cond.methodLink RX2 30 yX2_turn, Cond.instanceMethod yX2_turn, Cond.selects RX2 yX2_turn yX2_turn, Cond.code yX2_turn cX2_turn 5 (some .int), Cond.methodLink RX1 71 yX1_powerOf, Cond.instanceMethod yX1_powerOf, Cond.selects RX1 yX1_powerOf yX1_powerOf, Cond.code yX1_powerOf cX1_powerOf 2 (some .long), Cond.fieldLink RX1 79 "CircleCells$Sites" "x" "[I", Cond.fieldLink RX1 82 "CircleCells$Sites" "y" "[I", Cond.methodLink RX1 85 yX0_power, Cond.instanceMethod yX0_power, Cond.selects RX0 yX0_power yX0_power, Cond.initialized RX0, Cond.code yX0_power cX0_power 7 (some .long)]
def wsX3_cells_r3 : List Cond := [Cond.fieldLink RX0 13 "CircleCells$Circle" "fromX" "I", Cond.fieldLink RX0 22 "CircleCells$Circle" "fromY" "I", Cond.fieldLink RX0 34 "CircleCells$Circle" "span" "J", Cond.constantLong RX0 32 (2), Cond.fieldLink RX0 25 "CircleCells$Circle" "aimX" "J", Cond.fieldLink RX0 29 "CircleCells$Circle" "aimY" "J", Cond.methodLink RX1 75 yX0_layThrough, Cond.instanceMethod yX0_layThrough, Cond.selects RX0 yX0_layThrough yX0_layThrough, Cond.code yX0_layThrough cX0_layThrough 17 none, Cond.fieldLink RX0 7 "CircleCells$Sites" "x" "[I", Cond.fieldLink RX0 19 "CircleCells$Sites" "y" "[I", Cond.methodLink RX1 57 yX1_beginsCell, Cond.instanceMethod yX1_beginsCell, Cond.selects RX1 yX1_beginsCell yX1_beginsCell, Cond.code yX1_beginsCell cX1_beginsCell 7 (some .boolean), Cond.methodLink RX1 60 yX1_addCell, Cond.instanceMethod yX1_addCell, Cond.selects RX1 yX1_addCell yX1_addCell, Cond.code yX1_addCell cX1_addCell 5 none, Cond.fieldLink RX1 22 "CircleCells$Mosaic" "start" "[I", Cond.methodLink RX1 89 yX1_insertRound, Cond.instanceMethod yX1_insertRound, Cond.selects RX1 yX1_insertRound yX1_insertRound]
def wsX3_cells_r4 : List Cond := [Cond.code yX1_insertRound cX1_insertRound 5 none, Cond.fieldLink RX1 18 "CircleCells$Mosaic" "ring" "[I", Cond.methodLink RX1 93 yX1_claimSides, Cond.instanceMethod yX1_claimSides, Cond.selects RX1 yX1_claimSides yX1_claimSides, Cond.code yX1_claimSides cX1_claimSides 4 none, Cond.methodLink RX1 96 yX1_sideCount, Cond.instanceMethod yX1_sideCount, Cond.selects RX1 yX1_sideCount yX1_sideCount, Cond.code yX1_sideCount cX1_sideCount 2 (some .int), Cond.methodLink RX1 100 yX1_siteOf, Cond.instanceMethod yX1_siteOf, Cond.selects RX1 yX1_siteOf yX1_siteOf, Cond.code yX1_siteOf cX1_siteOf 3 (some .int), Cond.methodLink RX1 104 yX1_siteAfter, Cond.instanceMethod yX1_siteAfter, Cond.selects RX1 yX1_siteAfter yX1_siteAfter, Cond.code yX1_siteAfter cX1_siteAfter 3 (some .int), Cond.methodLink RX1 107 yX1_sideKey, Cond.static yX1_sideKey, Cond.code yX1_sideKey cX1_sideKey 2 (some .int), Cond.methodLink RX1 64 yX1_walkRim, Cond.instanceMethod yX1_walkRim, Cond.selects RX1 yX1_walkRim yX1_walkRim]
def wsX3_cells_r5 : List Cond := [Cond.code yX1_walkRim cX1_walkRim 4 none, Cond.fieldLink RX1 35 "CircleCells$Mosaic" "rimCount" "I", Cond.fieldLink RX1 32 "CircleCells$Mosaic" "rim" "[I", Cond.methodLink RX1 110 yX1_firstOnRim, Cond.instanceMethod yX1_firstOnRim, Cond.selects RX1 yX1_firstOnRim yX1_firstOnRim, Cond.code yX1_firstOnRim cX1_firstOnRim 2 (some .int), Cond.methodLink RX1 114 yX1_nextOnRim, Cond.instanceMethod yX1_nextOnRim, Cond.selects RX1 yX1_nextOnRim yX1_nextOnRim, Cond.code yX1_nextOnRim cX1_nextOnRim 3 (some .int)]
def wsX3_cells : List Cond := .code yX3_cells cX3_cells 1 (some .int) :: ((wsX3_cells_r1 ++ (wsX3_cells_r2 ++ (wsX3_cells_r3 ++ (wsX3_cells_r4 ++ wsX3_cells_r5)))) ++ wsX30 ++ wsX10 ++ wsX20 ++ wsX00)
def wsX3_requireCell : List Cond := .code yX3_requireCell cX3_requireCell 2 none :: ([.classLink RX3 133 "java/util/NoSuchElementException", .initialized "java/util/NoSuchElementException", .fieldLink RX3 21 "CircleCells" "mosaic" "LCircleCells$Mosaic;", .fieldLink RX3 84 "CircleCells$Mosaic" "cellCount" "I"] ++ wsX30 ++ wsX10 ++ (vx_atS RX3 137 "java/util/NoSuchElementException" ["java/lang/RuntimeException", "java/lang/Exception"]).filter goodWord)
def wsX3_requireIndex : List Cond := .code yX3_requireIndex cX3_requireIndex 2 none :: ([.classLink RX3 138 "java/lang/IndexOutOfBoundsException", .initialized "java/lang/IndexOutOfBoundsException"] ++ (vx_atS RX3 142 "java/lang/IndexOutOfBoundsException" ["java/lang/RuntimeException", "java/lang/Exception"]).filter goodWord)
def wsX3_cell_r1 : List Cond := [Cond.fieldLink RX3 21 "CircleCells" "mosaic" "LCircleCells$Mosaic;", Cond.methodLink RX3 81 yX3_refresh, Cond.instanceMethod yX3_refresh, Cond.selects RX3 yX3_refresh yX3_refresh, Cond.initialized RX3, Cond.code yX3_refresh cX3_refresh 1 none, Cond.fieldLink RX3 25 "CircleCells" "stale" "Z", Cond.methodLink RX3 143 yX1_build, Cond.instanceMethod yX1_build, Cond.selects RX1 yX1_build yX1_build, Cond.initialized RX1, Cond.code yX1_build cX1_build 3 none, Cond.fieldLink RX1 28 "CircleCells$Mosaic" "cellCount" "I", Cond.fieldLink RX1 25 "CircleCells$Mosaic" "owner" "[I", Cond.fieldLink RX1 38 "CircleCells$Mosaic" "sites" "LCircleCells$Sites;", Cond.fieldLink RX1 48 "CircleCells$Sites" "size" "I", Cond.methodLink RX1 42 yJ7_fill_53178, Cond.static yJ7_fill_53178, Cond.initialized RJ7, Cond.code yJ7_fill_53178 cJ7_fill_53178 4 none, Cond.methodLink RX1 53 yX1_layLeftOf, Cond.instanceMethod yX1_layLeftOf, Cond.selects RX1 yX1_layLeftOf yX1_layLeftOf, Cond.code yX1_layLeftOf cX1_layLeftOf 5 (some .boolean)]
def wsX3_cell_r2 : List Cond := [Cond.fieldLink RX1 12 "CircleCells$Mosaic" "circle" "LCircleCells$Circle;", Cond.methodLink RX1 67 yX2_turn_, Cond.instanceMethod yX2_turn_, Cond.selects RX2 yX2_turn_ yX2_turn_, Cond.initialized RX2, Cond.code yX2_turn_ cX2_turn_ 4 (some .int), Cond.fieldLink RX2 9 "CircleCells$Sites" "x" "[I", Cond.fieldLink RX2 15 "CircleCells$Sites" "y" "[I", Cond.methodLink RX2 30 yX2_turn, Cond.instanceMethod yX2_turn, Cond.selects RX2 yX2_turn yX2_turn, Cond.code yX2_turn cX2_turn 5 (some .int), Cond.methodLink RX1 71 yX1_powerOf, Cond.instanceMethod yX1_powerOf, Cond.selects RX1 yX1_powerOf yX1_powerOf, Cond.code yX1_powerOf cX1_powerOf 2 (some .long), Cond.fieldLink RX1 79 "CircleCells$Sites" "x" "[I", Cond.fieldLink RX1 82 "CircleCells$Sites" "y" "[I", Cond.methodLink RX1 85 yX0_power, Cond.instanceMethod yX0_power, Cond.selects RX0 yX0_power yX0_power, Cond.initialized RX0, Cond.code yX0_power cX0_power 7 (some .long), Cond.fieldLink RX0 13 "CircleCells$Circle" "fromX" "I"]
def wsX3_cell_r3 : List Cond := [Cond.fieldLink RX0 22 "CircleCells$Circle" "fromY" "I", Cond.fieldLink RX0 34 "CircleCells$Circle" "span" "J", Cond.constantLong RX0 32 (2), Cond.fieldLink RX0 25 "CircleCells$Circle" "aimX" "J", Cond.fieldLink RX0 29 "CircleCells$Circle" "aimY" "J", Cond.methodLink RX1 75 yX0_layThrough, Cond.instanceMethod yX0_layThrough, Cond.selects RX0 yX0_layThrough yX0_layThrough, Cond.code yX0_layThrough cX0_layThrough 17 none, Cond.fieldLink RX0 7 "CircleCells$Sites" "x" "[I", Cond.fieldLink RX0 19 "CircleCells$Sites" "y" "[I", Cond.methodLink RX1 57 yX1_beginsCell, Cond.instanceMethod yX1_beginsCell, Cond.selects RX1 yX1_beginsCell yX1_beginsCell, Cond.code yX1_beginsCell cX1_beginsCell 7 (some .boolean), Cond.methodLink RX1 60 yX1_addCell, Cond.instanceMethod yX1_addCell, Cond.selects RX1 yX1_addCell yX1_addCell, Cond.code yX1_addCell cX1_addCell 5 none, Cond.fieldLink RX1 22 "CircleCells$Mosaic" "start" "[I", Cond.methodLink RX1 89 yX1_insertRound, Cond.instanceMethod yX1_insertRound, Cond.selects RX1 yX1_insertRound yX1_insertRound, Cond.code yX1_insertRound cX1_insertRound 5 none]
def wsX3_cell_r4 : List Cond := [Cond.fieldLink RX1 18 "CircleCells$Mosaic" "ring" "[I", Cond.methodLink RX1 93 yX1_claimSides, Cond.instanceMethod yX1_claimSides, Cond.selects RX1 yX1_claimSides yX1_claimSides, Cond.code yX1_claimSides cX1_claimSides 4 none, Cond.methodLink RX1 96 yX1_sideCount, Cond.instanceMethod yX1_sideCount, Cond.selects RX1 yX1_sideCount yX1_sideCount, Cond.code yX1_sideCount cX1_sideCount 2 (some .int), Cond.methodLink RX1 100 yX1_siteOf, Cond.instanceMethod yX1_siteOf, Cond.selects RX1 yX1_siteOf yX1_siteOf, Cond.code yX1_siteOf cX1_siteOf 3 (some .int), Cond.methodLink RX1 104 yX1_siteAfter, Cond.instanceMethod yX1_siteAfter, Cond.selects RX1 yX1_siteAfter yX1_siteAfter, Cond.code yX1_siteAfter cX1_siteAfter 3 (some .int), Cond.methodLink RX1 107 yX1_sideKey, Cond.static yX1_sideKey, Cond.code yX1_sideKey cX1_sideKey 2 (some .int), Cond.methodLink RX1 64 yX1_walkRim, Cond.instanceMethod yX1_walkRim, Cond.selects RX1 yX1_walkRim yX1_walkRim, Cond.code yX1_walkRim cX1_walkRim 4 none]
def wsX3_cell_r5 : List Cond := [Cond.fieldLink RX1 35 "CircleCells$Mosaic" "rimCount" "I", Cond.fieldLink RX1 32 "CircleCells$Mosaic" "rim" "[I", Cond.methodLink RX1 110 yX1_firstOnRim, Cond.instanceMethod yX1_firstOnRim, Cond.selects RX1 yX1_firstOnRim yX1_firstOnRim, Cond.code yX1_firstOnRim cX1_firstOnRim 2 (some .int), Cond.methodLink RX1 114 yX1_nextOnRim, Cond.instanceMethod yX1_nextOnRim, Cond.selects RX1 yX1_nextOnRim yX1_nextOnRim, Cond.code yX1_nextOnRim cX1_nextOnRim 3 (some .int), Cond.methodLink RX3 87 yX3_requireCell, Cond.instanceMethod yX3_requireCell, Cond.selects RX3 yX3_requireCell yX3_requireCell, Cond.code yX3_requireCell cX3_requireCell 2 none, Cond.classLink RX3 133 "java/util/NoSuchElementException", Cond.initialized "java/util/NoSuchElementException", Cond.fieldLink RX3 84 "CircleCells$Mosaic" "cellCount" "I", Cond.methodLink RX3 90 yX1_sideCount, Cond.methodLink RX3 94 yX3_requireIndex, Cond.static yX3_requireIndex, Cond.code yX3_requireIndex cX3_requireIndex 2 none, Cond.classLink RX3 138 "java/lang/IndexOutOfBoundsException", Cond.initialized "java/lang/IndexOutOfBoundsException", Cond.methodLink RX3 97 yX1_siteOf]
def wsX3_cell : List Cond := .code yX3_cell cX3_cell 4 (some .int) :: ((wsX3_cell_r1 ++ (wsX3_cell_r2 ++ (wsX3_cell_r3 ++ (wsX3_cell_r4 ++ wsX3_cell_r5)))) ++ wsX30 ++ wsX10 ++ wsX20 ++ wsX00 ++ (vx_atS RX3 137 "java/util/NoSuchElementException" ["java/lang/RuntimeException", "java/lang/Exception"]).filter goodWord ++ (vx_atS RX3 142 "java/lang/IndexOutOfBoundsException" ["java/lang/RuntimeException", "java/lang/Exception"]).filter goodWord)
def wsX3_beside_r1 : List Cond := [Cond.fieldLink RX3 21 "CircleCells" "mosaic" "LCircleCells$Mosaic;", Cond.methodLink RX3 81 yX3_refresh, Cond.instanceMethod yX3_refresh, Cond.selects RX3 yX3_refresh yX3_refresh, Cond.initialized RX3, Cond.code yX3_refresh cX3_refresh 1 none, Cond.fieldLink RX3 25 "CircleCells" "stale" "Z", Cond.methodLink RX3 143 yX1_build, Cond.instanceMethod yX1_build, Cond.selects RX1 yX1_build yX1_build, Cond.initialized RX1, Cond.code yX1_build cX1_build 3 none, Cond.fieldLink RX1 28 "CircleCells$Mosaic" "cellCount" "I", Cond.fieldLink RX1 25 "CircleCells$Mosaic" "owner" "[I", Cond.fieldLink RX1 38 "CircleCells$Mosaic" "sites" "LCircleCells$Sites;", Cond.fieldLink RX1 48 "CircleCells$Sites" "size" "I", Cond.methodLink RX1 42 yJ7_fill_53178, Cond.static yJ7_fill_53178, Cond.initialized RJ7, Cond.code yJ7_fill_53178 cJ7_fill_53178 4 none, Cond.methodLink RX1 53 yX1_layLeftOf, Cond.instanceMethod yX1_layLeftOf, Cond.selects RX1 yX1_layLeftOf yX1_layLeftOf, Cond.code yX1_layLeftOf cX1_layLeftOf 5 (some .boolean)]
def wsX3_beside_r2 : List Cond := [Cond.fieldLink RX1 12 "CircleCells$Mosaic" "circle" "LCircleCells$Circle;", Cond.methodLink RX1 67 yX2_turn_, Cond.instanceMethod yX2_turn_, Cond.selects RX2 yX2_turn_ yX2_turn_, Cond.initialized RX2, Cond.code yX2_turn_ cX2_turn_ 4 (some .int), Cond.fieldLink RX2 9 "CircleCells$Sites" "x" "[I", Cond.fieldLink RX2 15 "CircleCells$Sites" "y" "[I", Cond.methodLink RX2 30 yX2_turn, Cond.instanceMethod yX2_turn, Cond.selects RX2 yX2_turn yX2_turn, Cond.code yX2_turn cX2_turn 5 (some .int), Cond.methodLink RX1 71 yX1_powerOf, Cond.instanceMethod yX1_powerOf, Cond.selects RX1 yX1_powerOf yX1_powerOf, Cond.code yX1_powerOf cX1_powerOf 2 (some .long), Cond.fieldLink RX1 79 "CircleCells$Sites" "x" "[I", Cond.fieldLink RX1 82 "CircleCells$Sites" "y" "[I", Cond.methodLink RX1 85 yX0_power, Cond.instanceMethod yX0_power, Cond.selects RX0 yX0_power yX0_power, Cond.initialized RX0, Cond.code yX0_power cX0_power 7 (some .long), Cond.fieldLink RX0 13 "CircleCells$Circle" "fromX" "I"]
def wsX3_beside_r3 : List Cond := [Cond.fieldLink RX0 22 "CircleCells$Circle" "fromY" "I", Cond.fieldLink RX0 34 "CircleCells$Circle" "span" "J", Cond.constantLong RX0 32 (2), Cond.fieldLink RX0 25 "CircleCells$Circle" "aimX" "J", Cond.fieldLink RX0 29 "CircleCells$Circle" "aimY" "J", Cond.methodLink RX1 75 yX0_layThrough, Cond.instanceMethod yX0_layThrough, Cond.selects RX0 yX0_layThrough yX0_layThrough, Cond.code yX0_layThrough cX0_layThrough 17 none, Cond.fieldLink RX0 7 "CircleCells$Sites" "x" "[I", Cond.fieldLink RX0 19 "CircleCells$Sites" "y" "[I", Cond.methodLink RX1 57 yX1_beginsCell, Cond.instanceMethod yX1_beginsCell, Cond.selects RX1 yX1_beginsCell yX1_beginsCell, Cond.code yX1_beginsCell cX1_beginsCell 7 (some .boolean), Cond.methodLink RX1 60 yX1_addCell, Cond.instanceMethod yX1_addCell, Cond.selects RX1 yX1_addCell yX1_addCell, Cond.code yX1_addCell cX1_addCell 5 none, Cond.fieldLink RX1 22 "CircleCells$Mosaic" "start" "[I", Cond.methodLink RX1 89 yX1_insertRound, Cond.instanceMethod yX1_insertRound, Cond.selects RX1 yX1_insertRound yX1_insertRound, Cond.code yX1_insertRound cX1_insertRound 5 none]
def wsX3_beside_r4 : List Cond := [Cond.fieldLink RX1 18 "CircleCells$Mosaic" "ring" "[I", Cond.methodLink RX1 93 yX1_claimSides, Cond.instanceMethod yX1_claimSides, Cond.selects RX1 yX1_claimSides yX1_claimSides, Cond.code yX1_claimSides cX1_claimSides 4 none, Cond.methodLink RX1 96 yX1_sideCount, Cond.instanceMethod yX1_sideCount, Cond.selects RX1 yX1_sideCount yX1_sideCount, Cond.code yX1_sideCount cX1_sideCount 2 (some .int), Cond.methodLink RX1 100 yX1_siteOf, Cond.instanceMethod yX1_siteOf, Cond.selects RX1 yX1_siteOf yX1_siteOf, Cond.code yX1_siteOf cX1_siteOf 3 (some .int), Cond.methodLink RX1 104 yX1_siteAfter, Cond.instanceMethod yX1_siteAfter, Cond.selects RX1 yX1_siteAfter yX1_siteAfter, Cond.code yX1_siteAfter cX1_siteAfter 3 (some .int), Cond.methodLink RX1 107 yX1_sideKey, Cond.static yX1_sideKey, Cond.code yX1_sideKey cX1_sideKey 2 (some .int), Cond.methodLink RX1 64 yX1_walkRim, Cond.instanceMethod yX1_walkRim, Cond.selects RX1 yX1_walkRim yX1_walkRim, Cond.code yX1_walkRim cX1_walkRim 4 none]
def wsX3_beside_r5 : List Cond := [Cond.fieldLink RX1 35 "CircleCells$Mosaic" "rimCount" "I", Cond.fieldLink RX1 32 "CircleCells$Mosaic" "rim" "[I", Cond.methodLink RX1 110 yX1_firstOnRim, Cond.instanceMethod yX1_firstOnRim, Cond.selects RX1 yX1_firstOnRim yX1_firstOnRim, Cond.code yX1_firstOnRim cX1_firstOnRim 2 (some .int), Cond.methodLink RX1 114 yX1_nextOnRim, Cond.instanceMethod yX1_nextOnRim, Cond.selects RX1 yX1_nextOnRim yX1_nextOnRim, Cond.code yX1_nextOnRim cX1_nextOnRim 3 (some .int), Cond.methodLink RX3 87 yX3_requireCell, Cond.instanceMethod yX3_requireCell, Cond.selects RX3 yX3_requireCell yX3_requireCell, Cond.code yX3_requireCell cX3_requireCell 2 none, Cond.classLink RX3 133 "java/util/NoSuchElementException", Cond.initialized "java/util/NoSuchElementException", Cond.fieldLink RX3 84 "CircleCells$Mosaic" "cellCount" "I", Cond.methodLink RX3 90 yX1_sideCount, Cond.methodLink RX3 94 yX3_requireIndex, Cond.static yX3_requireIndex, Cond.code yX3_requireIndex cX3_requireIndex 2 none, Cond.classLink RX3 138 "java/lang/IndexOutOfBoundsException", Cond.initialized "java/lang/IndexOutOfBoundsException", Cond.methodLink RX3 100 yX1_across]
def wsX3_beside_r6 : List Cond := [Cond.instanceMethod yX1_across, Cond.selects RX1 yX1_across yX1_across, Cond.code yX1_across cX1_across 3 (some .int)]
def wsX3_beside : List Cond := .code yX3_beside cX3_beside 3 (some .int) :: ((wsX3_beside_r1 ++ (wsX3_beside_r2 ++ (wsX3_beside_r3 ++ (wsX3_beside_r4 ++ (wsX3_beside_r5 ++ wsX3_beside_r6))))) ++ wsX30 ++ wsX10 ++ wsX20 ++ wsX00 ++ (vx_atS RX3 137 "java/util/NoSuchElementException" ["java/lang/RuntimeException", "java/lang/Exception"]).filter goodWord ++ (vx_atS RX3 142 "java/lang/IndexOutOfBoundsException" ["java/lang/RuntimeException", "java/lang/Exception"]).filter goodWord)
def wsX3_centre_r1 : List Cond := [Cond.classLink RX3 37 "java/lang/IllegalArgumentException", Cond.initialized "java/lang/IllegalArgumentException", Cond.fieldLink RX3 21 "CircleCells" "mosaic" "LCircleCells$Mosaic;", Cond.methodLink RX3 81 yX3_refresh, Cond.instanceMethod yX3_refresh, Cond.selects RX3 yX3_refresh yX3_refresh, Cond.initialized RX3, Cond.code yX3_refresh cX3_refresh 1 none, Cond.fieldLink RX3 25 "CircleCells" "stale" "Z", Cond.methodLink RX3 143 yX1_build, Cond.instanceMethod yX1_build, Cond.selects RX1 yX1_build yX1_build, Cond.initialized RX1, Cond.code yX1_build cX1_build 3 none, Cond.fieldLink RX1 28 "CircleCells$Mosaic" "cellCount" "I", Cond.fieldLink RX1 25 "CircleCells$Mosaic" "owner" "[I", Cond.fieldLink RX1 38 "CircleCells$Mosaic" "sites" "LCircleCells$Sites;", Cond.fieldLink RX1 48 "CircleCells$Sites" "size" "I", Cond.methodLink RX1 42 yJ7_fill_53178, Cond.static yJ7_fill_53178, Cond.initialized RJ7, Cond.code yJ7_fill_53178 cJ7_fill_53178 4 none, Cond.methodLink RX1 53 yX1_layLeftOf, Cond.instanceMethod yX1_layLeftOf]
def wsX3_centre_r2 : List Cond := [Cond.selects RX1 yX1_layLeftOf yX1_layLeftOf, Cond.code yX1_layLeftOf cX1_layLeftOf 5 (some .boolean), Cond.fieldLink RX1 12 "CircleCells$Mosaic" "circle" "LCircleCells$Circle;", Cond.methodLink RX1 67 yX2_turn_, Cond.instanceMethod yX2_turn_, Cond.selects RX2 yX2_turn_ yX2_turn_, Cond.initialized RX2, Cond.code yX2_turn_ cX2_turn_ 4 (some .int), Cond.fieldLink RX2 9 "CircleCells$Sites" "x" "[I", Cond.fieldLink RX2 15 "CircleCells$Sites" "y" "[I", Cond.methodLink RX2 30 yX2_turn, Cond.instanceMethod yX2_turn, Cond.selects RX2 yX2_turn yX2_turn, Cond.code yX2_turn cX2_turn 5 (some .int), Cond.methodLink RX1 71 yX1_powerOf, Cond.instanceMethod yX1_powerOf, Cond.selects RX1 yX1_powerOf yX1_powerOf, Cond.code yX1_powerOf cX1_powerOf 2 (some .long), Cond.fieldLink RX1 79 "CircleCells$Sites" "x" "[I", Cond.fieldLink RX1 82 "CircleCells$Sites" "y" "[I", Cond.methodLink RX1 85 yX0_power, Cond.instanceMethod yX0_power, Cond.selects RX0 yX0_power yX0_power, Cond.initialized RX0]
def wsX3_centre_r3 : List Cond := [Cond.code yX0_power cX0_power 7 (some .long), Cond.fieldLink RX0 13 "CircleCells$Circle" "fromX" "I", Cond.fieldLink RX0 22 "CircleCells$Circle" "fromY" "I", Cond.fieldLink RX0 34 "CircleCells$Circle" "span" "J", Cond.constantLong RX0 32 (2), Cond.fieldLink RX0 25 "CircleCells$Circle" "aimX" "J", Cond.fieldLink RX0 29 "CircleCells$Circle" "aimY" "J", Cond.methodLink RX1 75 yX0_layThrough, Cond.instanceMethod yX0_layThrough, Cond.selects RX0 yX0_layThrough yX0_layThrough, Cond.code yX0_layThrough cX0_layThrough 17 none, Cond.fieldLink RX0 7 "CircleCells$Sites" "x" "[I", Cond.fieldLink RX0 19 "CircleCells$Sites" "y" "[I", Cond.methodLink RX1 57 yX1_beginsCell, Cond.instanceMethod yX1_beginsCell, Cond.selects RX1 yX1_beginsCell yX1_beginsCell, Cond.code yX1_beginsCell cX1_beginsCell 7 (some .boolean), Cond.methodLink RX1 60 yX1_addCell, Cond.instanceMethod yX1_addCell, Cond.selects RX1 yX1_addCell yX1_addCell, Cond.code yX1_addCell cX1_addCell 5 none, Cond.fieldLink RX1 22 "CircleCells$Mosaic" "start" "[I", Cond.methodLink RX1 89 yX1_insertRound, Cond.instanceMethod yX1_insertRound]
def wsX3_centre_r4 : List Cond := [Cond.selects RX1 yX1_insertRound yX1_insertRound, Cond.code yX1_insertRound cX1_insertRound 5 none, Cond.fieldLink RX1 18 "CircleCells$Mosaic" "ring" "[I", Cond.methodLink RX1 93 yX1_claimSides, Cond.instanceMethod yX1_claimSides, Cond.selects RX1 yX1_claimSides yX1_claimSides, Cond.code yX1_claimSides cX1_claimSides 4 none, Cond.methodLink RX1 96 yX1_sideCount, Cond.instanceMethod yX1_sideCount, Cond.selects RX1 yX1_sideCount yX1_sideCount, Cond.code yX1_sideCount cX1_sideCount 2 (some .int), Cond.methodLink RX1 100 yX1_siteOf, Cond.instanceMethod yX1_siteOf, Cond.selects RX1 yX1_siteOf yX1_siteOf, Cond.code yX1_siteOf cX1_siteOf 3 (some .int), Cond.methodLink RX1 104 yX1_siteAfter, Cond.instanceMethod yX1_siteAfter, Cond.selects RX1 yX1_siteAfter yX1_siteAfter, Cond.code yX1_siteAfter cX1_siteAfter 3 (some .int), Cond.methodLink RX1 107 yX1_sideKey, Cond.static yX1_sideKey, Cond.code yX1_sideKey cX1_sideKey 2 (some .int), Cond.methodLink RX1 64 yX1_walkRim, Cond.instanceMethod yX1_walkRim]
def wsX3_centre_r5 : List Cond := [Cond.selects RX1 yX1_walkRim yX1_walkRim, Cond.code yX1_walkRim cX1_walkRim 4 none, Cond.fieldLink RX1 35 "CircleCells$Mosaic" "rimCount" "I", Cond.fieldLink RX1 32 "CircleCells$Mosaic" "rim" "[I", Cond.methodLink RX1 110 yX1_firstOnRim, Cond.instanceMethod yX1_firstOnRim, Cond.selects RX1 yX1_firstOnRim yX1_firstOnRim, Cond.code yX1_firstOnRim cX1_firstOnRim 2 (some .int), Cond.methodLink RX1 114 yX1_nextOnRim, Cond.instanceMethod yX1_nextOnRim, Cond.selects RX1 yX1_nextOnRim yX1_nextOnRim, Cond.code yX1_nextOnRim cX1_nextOnRim 3 (some .int), Cond.methodLink RX3 87 yX3_requireCell, Cond.instanceMethod yX3_requireCell, Cond.selects RX3 yX3_requireCell yX3_requireCell, Cond.code yX3_requireCell cX3_requireCell 2 none, Cond.classLink RX3 133 "java/util/NoSuchElementException", Cond.initialized "java/util/NoSuchElementException", Cond.fieldLink RX3 84 "CircleCells$Mosaic" "cellCount" "I", Cond.methodLink RX3 105 yX1_circleOf, Cond.instanceMethod yX1_circleOf, Cond.selects RX1 yX1_circleOf yX1_circleOf, Cond.code yX1_circleOf cX1_circleOf 2 (some (.object "CircleCells$Circle")), Cond.methodLink RX3 109 yX0_middle]
def wsX3_centre_r6 : List Cond := [Cond.instanceMethod yX0_middle, Cond.selects RX0 yX0_middle yX0_middle, Cond.code yX0_middle cX0_middle 10 (some .long), Cond.methodLink RX0 37 Lib.MathLoose.abs_long.x, Cond.static Lib.MathLoose.abs_long.x, Cond.initialized "java/lang/Math", Cond.code Lib.MathLoose.abs_long.x Lib.MathLoose.abs_long.code 2 (some .long), Cond.methodLink RX0 43 yX0_commonDivisor, Cond.static yX0_commonDivisor, Cond.code yX0_commonDivisor cX0_commonDivisor 7 (some .long)]
def wsX3_centre : List Cond := .code yX3_centre cX3_centre 3 (some .long) :: ((wsX3_centre_r1 ++ (wsX3_centre_r2 ++ (wsX3_centre_r3 ++ (wsX3_centre_r4 ++ (wsX3_centre_r5 ++ wsX3_centre_r6))))) ++ wsX30 ++ wsX10 ++ wsX20 ++ wsX00 ++ (vx_atS RX3 41 "java/lang/IllegalArgumentException" ["java/lang/RuntimeException", "java/lang/Exception"]).filter goodWord ++ (vx_atS RX3 137 "java/util/NoSuchElementException" ["java/lang/RuntimeException", "java/lang/Exception"]).filter goodWord)
def wsX3_hull_r1 : List Cond := [Cond.fieldLink RX3 21 "CircleCells" "mosaic" "LCircleCells$Mosaic;", Cond.fieldLink RX3 115 "CircleCells$Mosaic" "rimCount" "I", Cond.fieldLink RX3 118 "CircleCells$Mosaic" "rim" "[I", Cond.methodLink RX3 81 yX3_refresh, Cond.instanceMethod yX3_refresh, Cond.selects RX3 yX3_refresh yX3_refresh, Cond.initialized RX3, Cond.code yX3_refresh cX3_refresh 1 none, Cond.fieldLink RX3 25 "CircleCells" "stale" "Z", Cond.methodLink RX3 143 yX1_build, Cond.instanceMethod yX1_build, Cond.selects RX1 yX1_build yX1_build, Cond.initialized RX1, Cond.code yX1_build cX1_build 3 none, Cond.fieldLink RX1 28 "CircleCells$Mosaic" "cellCount" "I", Cond.fieldLink RX1 25 "CircleCells$Mosaic" "owner" "[I", Cond.fieldLink RX1 38 "CircleCells$Mosaic" "sites" "LCircleCells$Sites;", Cond.fieldLink RX1 48 "CircleCells$Sites" "size" "I", Cond.methodLink RX1 42 yJ7_fill_53178, Cond.static yJ7_fill_53178, Cond.initialized RJ7, Cond.code yJ7_fill_53178 cJ7_fill_53178 4 none, Cond.methodLink RX1 53 yX1_layLeftOf, Cond.instanceMethod yX1_layLeftOf]
def wsX3_hull_r2 : List Cond := [Cond.selects RX1 yX1_layLeftOf yX1_layLeftOf, Cond.code yX1_layLeftOf cX1_layLeftOf 5 (some .boolean), Cond.fieldLink RX1 12 "CircleCells$Mosaic" "circle" "LCircleCells$Circle;", Cond.methodLink RX1 67 yX2_turn_, Cond.instanceMethod yX2_turn_, Cond.selects RX2 yX2_turn_ yX2_turn_, Cond.initialized RX2, Cond.code yX2_turn_ cX2_turn_ 4 (some .int), Cond.fieldLink RX2 9 "CircleCells$Sites" "x" "[I", Cond.fieldLink RX2 15 "CircleCells$Sites" "y" "[I", Cond.methodLink RX2 30 yX2_turn, Cond.instanceMethod yX2_turn, Cond.selects RX2 yX2_turn yX2_turn, Cond.code yX2_turn cX2_turn 5 (some .int), Cond.methodLink RX1 71 yX1_powerOf, Cond.instanceMethod yX1_powerOf, Cond.selects RX1 yX1_powerOf yX1_powerOf, Cond.code yX1_powerOf cX1_powerOf 2 (some .long), Cond.fieldLink RX1 79 "CircleCells$Sites" "x" "[I", Cond.fieldLink RX1 82 "CircleCells$Sites" "y" "[I", Cond.methodLink RX1 85 yX0_power, Cond.instanceMethod yX0_power, Cond.selects RX0 yX0_power yX0_power, Cond.initialized RX0]
def wsX3_hull_r3 : List Cond := [Cond.code yX0_power cX0_power 7 (some .long), Cond.fieldLink RX0 13 "CircleCells$Circle" "fromX" "I", Cond.fieldLink RX0 22 "CircleCells$Circle" "fromY" "I", Cond.fieldLink RX0 34 "CircleCells$Circle" "span" "J", Cond.constantLong RX0 32 (2), Cond.fieldLink RX0 25 "CircleCells$Circle" "aimX" "J", Cond.fieldLink RX0 29 "CircleCells$Circle" "aimY" "J", Cond.methodLink RX1 75 yX0_layThrough, Cond.instanceMethod yX0_layThrough, Cond.selects RX0 yX0_layThrough yX0_layThrough, Cond.code yX0_layThrough cX0_layThrough 17 none, Cond.fieldLink RX0 7 "CircleCells$Sites" "x" "[I", Cond.fieldLink RX0 19 "CircleCells$Sites" "y" "[I", Cond.methodLink RX1 57 yX1_beginsCell, Cond.instanceMethod yX1_beginsCell, Cond.selects RX1 yX1_beginsCell yX1_beginsCell, Cond.code yX1_beginsCell cX1_beginsCell 7 (some .boolean), Cond.methodLink RX1 60 yX1_addCell, Cond.instanceMethod yX1_addCell, Cond.selects RX1 yX1_addCell yX1_addCell, Cond.code yX1_addCell cX1_addCell 5 none, Cond.fieldLink RX1 22 "CircleCells$Mosaic" "start" "[I", Cond.methodLink RX1 89 yX1_insertRound, Cond.instanceMethod yX1_insertRound]
def wsX3_hull_r4 : List Cond := [Cond.selects RX1 yX1_insertRound yX1_insertRound, Cond.code yX1_insertRound cX1_insertRound 5 none, Cond.fieldLink RX1 18 "CircleCells$Mosaic" "ring" "[I", Cond.methodLink RX1 93 yX1_claimSides, Cond.instanceMethod yX1_claimSides, Cond.selects RX1 yX1_claimSides yX1_claimSides, Cond.code yX1_claimSides cX1_claimSides 4 none, Cond.methodLink RX1 96 yX1_sideCount, Cond.instanceMethod yX1_sideCount, Cond.selects RX1 yX1_sideCount yX1_sideCount, Cond.code yX1_sideCount cX1_sideCount 2 (some .int), Cond.methodLink RX1 100 yX1_siteOf, Cond.instanceMethod yX1_siteOf, Cond.selects RX1 yX1_siteOf yX1_siteOf, Cond.code yX1_siteOf cX1_siteOf 3 (some .int), Cond.methodLink RX1 104 yX1_siteAfter, Cond.instanceMethod yX1_siteAfter, Cond.selects RX1 yX1_siteAfter yX1_siteAfter, Cond.code yX1_siteAfter cX1_siteAfter 3 (some .int), Cond.methodLink RX1 107 yX1_sideKey, Cond.static yX1_sideKey, Cond.code yX1_sideKey cX1_sideKey 2 (some .int), Cond.methodLink RX1 64 yX1_walkRim, Cond.instanceMethod yX1_walkRim]
def wsX3_hull_r5 : List Cond := [Cond.selects RX1 yX1_walkRim yX1_walkRim, Cond.code yX1_walkRim cX1_walkRim 4 none, Cond.fieldLink RX1 35 "CircleCells$Mosaic" "rimCount" "I", Cond.fieldLink RX1 32 "CircleCells$Mosaic" "rim" "[I", Cond.methodLink RX1 110 yX1_firstOnRim, Cond.instanceMethod yX1_firstOnRim, Cond.selects RX1 yX1_firstOnRim yX1_firstOnRim, Cond.code yX1_firstOnRim cX1_firstOnRim 2 (some .int), Cond.methodLink RX1 114 yX1_nextOnRim, Cond.instanceMethod yX1_nextOnRim, Cond.selects RX1 yX1_nextOnRim yX1_nextOnRim, Cond.code yX1_nextOnRim cX1_nextOnRim 3 (some .int), Cond.methodLink RX3 94 yX3_requireIndex, Cond.static yX3_requireIndex, Cond.code yX3_requireIndex cX3_requireIndex 2 none, Cond.classLink RX3 138 "java/lang/IndexOutOfBoundsException", Cond.initialized "java/lang/IndexOutOfBoundsException"]
def wsX3_hull : List Cond := .code yX3_hull cX3_hull 2 (some .int) :: ((wsX3_hull_r1 ++ (wsX3_hull_r2 ++ (wsX3_hull_r3 ++ (wsX3_hull_r4 ++ wsX3_hull_r5)))) ++ wsX30 ++ wsX10 ++ wsX20 ++ wsX00 ++ (vx_atS RX3 142 "java/lang/IndexOutOfBoundsException" ["java/lang/RuntimeException", "java/lang/Exception"]).filter goodWord)
def wsX3_around_r1 : List Cond := [Cond.fieldLink RX3 21 "CircleCells" "mosaic" "LCircleCells$Mosaic;", Cond.methodLink RX3 29 yX3_requirePlace, Cond.static yX3_requirePlace, Cond.initialized RX3, Cond.code yX3_requirePlace cX3_requirePlace 2 none, Cond.classLink RX3 37 "java/lang/IllegalArgumentException", Cond.initialized "java/lang/IllegalArgumentException", Cond.methodLink RX3 81 yX3_refresh, Cond.instanceMethod yX3_refresh, Cond.selects RX3 yX3_refresh yX3_refresh, Cond.code yX3_refresh cX3_refresh 1 none, Cond.fieldLink RX3 25 "CircleCells" "stale" "Z", Cond.methodLink RX3 143 yX1_build, Cond.instanceMethod yX1_build, Cond.selects RX1 yX1_build yX1_build, Cond.initialized RX1, Cond.code yX1_build cX1_build 3 none, Cond.fieldLink RX1 28 "CircleCells$Mosaic" "cellCount" "I", Cond.fieldLink RX1 25 "CircleCells$Mosaic" "owner" "[I", Cond.fieldLink RX1 38 "CircleCells$Mosaic" "sites" "LCircleCells$Sites;", Cond.fieldLink RX1 48 "CircleCells$Sites" "size" "I", Cond.methodLink RX1 42 yJ7_fill_53178, Cond.static yJ7_fill_53178, Cond.initialized RJ7]
def wsX3_around_r2 : List Cond := [Cond.code yJ7_fill_53178 cJ7_fill_53178 4 none, Cond.methodLink RX1 53 yX1_layLeftOf, Cond.instanceMethod yX1_layLeftOf, Cond.selects RX1 yX1_layLeftOf yX1_layLeftOf, Cond.code yX1_layLeftOf cX1_layLeftOf 5 (some .boolean), Cond.fieldLink RX1 12 "CircleCells$Mosaic" "circle" "LCircleCells$Circle;", Cond.methodLink RX1 67 yX2_turn_, Cond.instanceMethod yX2_turn_, Cond.selects RX2 yX2_turn_ yX2_turn_, Cond.initialized RX2, Cond.code yX2_turn_ cX2_turn_ 4 (some .int), Cond.fieldLink RX2 9 "CircleCells$Sites" "x" "[I", Cond.fieldLink RX2 15 "CircleCells$Sites" "y" "[I", Cond.methodLink RX2 30 yX2_turn, Cond.instanceMethod yX2_turn, Cond.selects RX2 yX2_turn yX2_turn, Cond.code yX2_turn cX2_turn 5 (some .int), Cond.methodLink RX1 71 yX1_powerOf, Cond.instanceMethod yX1_powerOf, Cond.selects RX1 yX1_powerOf yX1_powerOf, Cond.code yX1_powerOf cX1_powerOf 2 (some .long), Cond.fieldLink RX1 79 "CircleCells$Sites" "x" "[I", Cond.fieldLink RX1 82 "CircleCells$Sites" "y" "[I", Cond.methodLink RX1 85 yX0_power]
def wsX3_around_r3 : List Cond := [Cond.instanceMethod yX0_power, Cond.selects RX0 yX0_power yX0_power, Cond.initialized RX0, Cond.code yX0_power cX0_power 7 (some .long), Cond.fieldLink RX0 13 "CircleCells$Circle" "fromX" "I", Cond.fieldLink RX0 22 "CircleCells$Circle" "fromY" "I", Cond.fieldLink RX0 34 "CircleCells$Circle" "span" "J", Cond.constantLong RX0 32 (2), Cond.fieldLink RX0 25 "CircleCells$Circle" "aimX" "J", Cond.fieldLink RX0 29 "CircleCells$Circle" "aimY" "J", Cond.methodLink RX1 75 yX0_layThrough, Cond.instanceMethod yX0_layThrough, Cond.selects RX0 yX0_layThrough yX0_layThrough, Cond.code yX0_layThrough cX0_layThrough 17 none, Cond.fieldLink RX0 7 "CircleCells$Sites" "x" "[I", Cond.fieldLink RX0 19 "CircleCells$Sites" "y" "[I", Cond.methodLink RX1 57 yX1_beginsCell, Cond.instanceMethod yX1_beginsCell, Cond.selects RX1 yX1_beginsCell yX1_beginsCell, Cond.code yX1_beginsCell cX1_beginsCell 7 (some .boolean), Cond.methodLink RX1 60 yX1_addCell, Cond.instanceMethod yX1_addCell, Cond.selects RX1 yX1_addCell yX1_addCell, Cond.code yX1_addCell cX1_addCell 5 none]
def wsX3_around_r4 : List Cond := [Cond.fieldLink RX1 22 "CircleCells$Mosaic" "start" "[I", Cond.methodLink RX1 89 yX1_insertRound, Cond.instanceMethod yX1_insertRound, Cond.selects RX1 yX1_insertRound yX1_insertRound, Cond.code yX1_insertRound cX1_insertRound 5 none, Cond.fieldLink RX1 18 "CircleCells$Mosaic" "ring" "[I", Cond.methodLink RX1 93 yX1_claimSides, Cond.instanceMethod yX1_claimSides, Cond.selects RX1 yX1_claimSides yX1_claimSides, Cond.code yX1_claimSides cX1_claimSides 4 none, Cond.methodLink RX1 96 yX1_sideCount, Cond.instanceMethod yX1_sideCount, Cond.selects RX1 yX1_sideCount yX1_sideCount, Cond.code yX1_sideCount cX1_sideCount 2 (some .int), Cond.methodLink RX1 100 yX1_siteOf, Cond.instanceMethod yX1_siteOf, Cond.selects RX1 yX1_siteOf yX1_siteOf, Cond.code yX1_siteOf cX1_siteOf 3 (some .int), Cond.methodLink RX1 104 yX1_siteAfter, Cond.instanceMethod yX1_siteAfter, Cond.selects RX1 yX1_siteAfter yX1_siteAfter, Cond.code yX1_siteAfter cX1_siteAfter 3 (some .int), Cond.methodLink RX1 107 yX1_sideKey, Cond.static yX1_sideKey]
def wsX3_around_r5 : List Cond := [Cond.code yX1_sideKey cX1_sideKey 2 (some .int), Cond.methodLink RX1 64 yX1_walkRim, Cond.instanceMethod yX1_walkRim, Cond.selects RX1 yX1_walkRim yX1_walkRim, Cond.code yX1_walkRim cX1_walkRim 4 none, Cond.fieldLink RX1 35 "CircleCells$Mosaic" "rimCount" "I", Cond.fieldLink RX1 32 "CircleCells$Mosaic" "rim" "[I", Cond.methodLink RX1 110 yX1_firstOnRim, Cond.instanceMethod yX1_firstOnRim, Cond.selects RX1 yX1_firstOnRim yX1_firstOnRim, Cond.code yX1_firstOnRim cX1_firstOnRim 2 (some .int), Cond.methodLink RX1 114 yX1_nextOnRim, Cond.instanceMethod yX1_nextOnRim, Cond.selects RX1 yX1_nextOnRim yX1_nextOnRim, Cond.code yX1_nextOnRim cX1_nextOnRim 3 (some .int), Cond.methodLink RX3 121 yX1_firstWith, Cond.instanceMethod yX1_firstWith, Cond.selects RX1 yX1_firstWith yX1_firstWith, Cond.code yX1_firstWith cX1_firstWith 4 (some .int), Cond.methodLink RX1 117 yX1_holds, Cond.instanceMethod yX1_holds, Cond.selects RX1 yX1_holds yX1_holds, Cond.code yX1_holds cX1_holds 6 (some .boolean), Cond.methodLink RX1 121 yX2_turn]
def wsX3_around : List Cond := .code yX3_around cX3_around 3 (some .int) :: ((wsX3_around_r1 ++ (wsX3_around_r2 ++ (wsX3_around_r3 ++ (wsX3_around_r4 ++ wsX3_around_r5)))) ++ wsX30 ++ wsX10 ++ wsX20 ++ wsX00 ++ (vx_atS RX3 41 "java/lang/IllegalArgumentException" ["java/lang/RuntimeException", "java/lang/Exception"]).filter goodWord)
def wsX3_nearest : List Cond := .code yX3_nearest cX3_nearest 3 (some .int) :: ([.classLink RX3 48 "java/lang/IllegalStateException", .initialized "java/lang/IllegalStateException", .fieldLink RX3 12 "CircleCells" "sites" "LCircleCells$Sites;", .fieldLink RX3 44 "CircleCells$Sites" "size" "I", .methodLink RX3 29 yX3_requirePlace, .static yX3_requirePlace, .initialized RX3, .code yX3_requirePlace cX3_requirePlace 2 none, .classLink RX3 37 "java/lang/IllegalArgumentException", .initialized "java/lang/IllegalArgumentException", .methodLink RX3 126 yX2_closestTo, .instanceMethod yX2_closestTo, .selects RX2 yX2_closestTo yX2_closestTo, .initialized RX2, .code yX2_closestTo cX2_closestTo 5 (some .int), .fieldLink RX2 18 "CircleCells$Sites" "size" "I", .methodLink RX2 26 yX2_squareTo, .instanceMethod yX2_squareTo, .selects RX2 yX2_squareTo yX2_squareTo, .code yX2_squareTo cX2_squareTo 6 (some .int), .fieldLink RX2 9 "CircleCells$Sites" "x" "[I", .fieldLink RX2 15 "CircleCells$Sites" "y" "[I"] ++ wsX30 ++ wsX20 ++ (vx_atS RX3 52 "java/lang/IllegalStateException" ["java/lang/RuntimeException", "java/lang/Exception"]).filter goodWord ++ (vx_atS RX3 41 "java/lang/IllegalArgumentException" ["java/lang/RuntimeException", "java/lang/Exception"]).filter goodWord)
def wsX4_init : List Cond := .code yX4_init cX4_init 1 none :: ([.methodLink RX4 1 objectInit, .instanceMethod objectInit, .code objectInit ⟨#[0xb1]⟩ 1 none, .arrayClass .int, .fieldLink RX4 7 "CircleCellsModel" "x" "[I", .fieldLink RX4 13 "CircleCellsModel" "y" "[I", .fieldLink RX4 16 "CircleCellsModel" "size" "[I", .fieldLink RX4 19 "CircleCellsModel" "round" "[I", .fieldLink RX4 22 "CircleCellsModel" "order" "[I", .fieldLink RX4 25 "CircleCellsModel" "hull" "[I"] ++ wsX40)
def wsX4_thrown : List Cond := .code yX4_thrown cX4_thrown 1 (some .int) :: ([.fieldLink RX4 28 "CircleCellsModel" "thrown" "I"] ++ wsX40)
def wsX4_throwing : List Cond := .code yX4_throwing cX4_throwing 3 (some .boolean) :: ([.fieldLink RX4 28 "CircleCellsModel" "thrown" "I"] ++ wsX40)
def wsX4_out : List Cond := .code yX4_out cX4_out 2 (some .boolean) :: ([])
def wsX4_isFar : List Cond := .code yX4_isFar cX4_isFar 2 (some .boolean) :: ([])
def wsX4_isTaken : List Cond := .code yX4_isTaken cX4_isTaken 6 (some .boolean) :: ([.fieldLink RX4 32 "CircleCellsModel" "sites" "I", .fieldLink RX4 7 "CircleCellsModel" "x" "[I", .fieldLink RX4 13 "CircleCellsModel" "y" "[I"] ++ wsX40)
def wsX4_site : List Cond := .code yX4_site cX4_site 4 (some .int) :: ([.fieldLink RX4 32 "CircleCellsModel" "sites" "I", .fieldLink RX4 7 "CircleCellsModel" "x" "[I", .fieldLink RX4 13 "CircleCellsModel" "y" "[I", .fieldLink RX4 47 "CircleCellsModel" "made" "Z", .methodLink RX4 35 yX4_isFar, .static yX4_isFar, .initialized RX4, .code yX4_isFar cX4_isFar 2 (some .boolean), .methodLink RX4 39 yX4_isTaken, .instanceMethod yX4_isTaken, .selects RX4 yX4_isTaken yX4_isTaken, .code yX4_isTaken cX4_isTaken 6 (some .boolean), .methodLink RX4 43 yX4_throwing, .instanceMethod yX4_throwing, .selects RX4 yX4_throwing yX4_throwing, .code yX4_throwing cX4_throwing 3 (some .boolean), .fieldLink RX4 28 "CircleCellsModel" "thrown" "I"] ++ wsX40)
def wsX4_remove : List Cond := .code yX4_remove cX4_remove 3 none :: ([.fieldLink RX4 32 "CircleCellsModel" "sites" "I", .fieldLink RX4 7 "CircleCellsModel" "x" "[I", .fieldLink RX4 13 "CircleCellsModel" "y" "[I", .fieldLink RX4 47 "CircleCellsModel" "made" "Z", .methodLink RX4 51 yX4_out, .static yX4_out, .initialized RX4, .code yX4_out cX4_out 2 (some .boolean), .methodLink RX4 43 yX4_throwing, .instanceMethod yX4_throwing, .selects RX4 yX4_throwing yX4_throwing, .code yX4_throwing cX4_throwing 3 (some .boolean), .fieldLink RX4 28 "CircleCellsModel" "thrown" "I"] ++ wsX40)
def wsX4_move : List Cond := .code yX4_move cX4_move 4 none :: ([.fieldLink RX4 32 "CircleCellsModel" "sites" "I", .fieldLink RX4 7 "CircleCellsModel" "x" "[I", .fieldLink RX4 13 "CircleCellsModel" "y" "[I", .fieldLink RX4 47 "CircleCellsModel" "made" "Z", .methodLink RX4 51 yX4_out, .static yX4_out, .initialized RX4, .code yX4_out cX4_out 2 (some .boolean), .methodLink RX4 35 yX4_isFar, .static yX4_isFar, .code yX4_isFar cX4_isFar 2 (some .boolean), .methodLink RX4 39 yX4_isTaken, .instanceMethod yX4_isTaken, .selects RX4 yX4_isTaken yX4_isTaken, .code yX4_isTaken cX4_isTaken 6 (some .boolean), .methodLink RX4 43 yX4_throwing, .instanceMethod yX4_throwing, .selects RX4 yX4_throwing yX4_throwing, .code yX4_throwing cX4_throwing 3 (some .boolean), .fieldLink RX4 28 "CircleCellsModel" "thrown" "I"] ++ wsX40)
def wsX4_clear : List Cond := .code yX4_clear cX4_clear 1 none :: ([.fieldLink RX4 28 "CircleCellsModel" "thrown" "I", .fieldLink RX4 32 "CircleCellsModel" "sites" "I", .fieldLink RX4 47 "CircleCellsModel" "made" "Z"] ++ wsX40)
def wsX4_where : List Cond := .code yX4_where cX4_where 3 (some .int) :: ([.fieldLink RX4 32 "CircleCellsModel" "sites" "I", .fieldLink RX4 7 "CircleCellsModel" "x" "[I", .fieldLink RX4 13 "CircleCellsModel" "y" "[I", .methodLink RX4 51 yX4_out, .static yX4_out, .initialized RX4, .code yX4_out cX4_out 2 (some .boolean), .methodLink RX4 43 yX4_throwing, .instanceMethod yX4_throwing, .selects RX4 yX4_throwing yX4_throwing, .code yX4_throwing cX4_throwing 3 (some .boolean), .fieldLink RX4 28 "CircleCellsModel" "thrown" "I"] ++ wsX40)
def wsX4_turn : List Cond := .code yX4_turn cX4_turn 5 (some .long) :: ([.fieldLink RX4 7 "CircleCellsModel" "x" "[I", .fieldLink RX4 13 "CircleCellsModel" "y" "[I"] ++ wsX40)
def wsX4_square : List Cond := .code yX4_square cX4_square 3 (some .long) :: ([.fieldLink RX4 7 "CircleCellsModel" "x" "[I", .fieldLink RX4 13 "CircleCellsModel" "y" "[I"] ++ wsX40)
def wsX4_power : List Cond := .code yX4_power cX4_power 21 (some .long) :: ([.fieldLink RX4 7 "CircleCellsModel" "x" "[I", .fieldLink RX4 13 "CircleCellsModel" "y" "[I", .methodLink RX4 54 yX4_square, .instanceMethod yX4_square, .selects RX4 yX4_square yX4_square, .initialized RX4, .code yX4_square cX4_square 3 (some .long)] ++ wsX40)
def wsX4_onCircle : List Cond := .code yX4_onCircle cX4_onCircle 8 (some .int) :: ([.fieldLink RX4 32 "CircleCellsModel" "sites" "I", .methodLink RX4 58 yX4_power, .instanceMethod yX4_power, .selects RX4 yX4_power yX4_power, .initialized RX4, .code yX4_power cX4_power 21 (some .long), .fieldLink RX4 7 "CircleCellsModel" "x" "[I", .fieldLink RX4 13 "CircleCellsModel" "y" "[I", .methodLink RX4 54 yX4_square, .instanceMethod yX4_square, .selects RX4 yX4_square yX4_square, .code yX4_square cX4_square 3 (some .long)] ++ wsX40)
def wsX4_behind : List Cond := .code yX4_behind cX4_behind 6 (some .int) :: ([.fieldLink RX4 32 "CircleCellsModel" "sites" "I", .fieldLink RX4 7 "CircleCellsModel" "x" "[I", .fieldLink RX4 13 "CircleCellsModel" "y" "[I", .methodLink RX4 62 yX4_turn, .instanceMethod yX4_turn, .selects RX4 yX4_turn yX4_turn, .initialized RX4, .code yX4_turn cX4_turn 5 (some .long)] ++ wsX40)
def wsX4_add : List Cond := .code yX4_add cX4_add 5 none :: ([.fieldLink RX4 19 "CircleCellsModel" "round" "[I", .fieldLink RX4 65 "CircleCellsModel" "cells" "I", .fieldLink RX4 16 "CircleCellsModel" "size" "[I", .methodLink RX4 68 yX4_behind, .instanceMethod yX4_behind, .selects RX4 yX4_behind yX4_behind, .initialized RX4, .code yX4_behind cX4_behind 6 (some .int), .fieldLink RX4 32 "CircleCellsModel" "sites" "I", .fieldLink RX4 7 "CircleCellsModel" "x" "[I", .fieldLink RX4 13 "CircleCellsModel" "y" "[I", .methodLink RX4 62 yX4_turn, .instanceMethod yX4_turn, .selects RX4 yX4_turn yX4_turn, .code yX4_turn cX4_turn 5 (some .long)] ++ wsX40)
def wsX4_isBefore : List Cond := .code yX4_isBefore cX4_isBefore 4 (some .boolean) :: ([.fieldLink RX4 16 "CircleCellsModel" "size" "[I", .fieldLink RX4 19 "CircleCellsModel" "round" "[I"] ++ wsX40)
def wsX4_after : List Cond := .code yX4_after cX4_after 3 (some .int) :: ([.fieldLink RX4 19 "CircleCellsModel" "round" "[I", .fieldLink RX4 16 "CircleCellsModel" "size" "[I"] ++ wsX40)
def wsX4_withSide : List Cond := .code yX4_withSide cX4_withSide 6 (some .int) :: ([.fieldLink RX4 65 "CircleCellsModel" "cells" "I", .fieldLink RX4 22 "CircleCellsModel" "order" "[I", .fieldLink RX4 16 "CircleCellsModel" "size" "[I", .fieldLink RX4 19 "CircleCellsModel" "round" "[I", .methodLink RX4 89 yX4_after, .instanceMethod yX4_after, .selects RX4 yX4_after yX4_after, .initialized RX4, .code yX4_after cX4_after 3 (some .int)] ++ wsX40)
def wsX4_onHull : List Cond := .code yX4_onHull cX4_onHull 4 (some .int) :: ([.fieldLink RX4 65 "CircleCellsModel" "cells" "I", .fieldLink RX4 16 "CircleCellsModel" "size" "[I", .fieldLink RX4 19 "CircleCellsModel" "round" "[I", .methodLink RX4 89 yX4_after, .instanceMethod yX4_after, .selects RX4 yX4_after yX4_after, .initialized RX4, .code yX4_after cX4_after 3 (some .int), .methodLink RX4 92 yX4_withSide, .instanceMethod yX4_withSide, .selects RX4 yX4_withSide yX4_withSide, .code yX4_withSide cX4_withSide 6 (some .int), .fieldLink RX4 22 "CircleCellsModel" "order" "[I"] ++ wsX40)
def wsX4_surround : List Cond := .code yX4_surround cX4_surround 3 none :: ([.fieldLink RX4 32 "CircleCellsModel" "sites" "I", .fieldLink RX4 65 "CircleCellsModel" "cells" "I", .fieldLink RX4 72 "CircleCellsModel" "hullSize" "I", .fieldLink RX4 25 "CircleCellsModel" "hull" "[I", .methodLink RX4 95 yX4_onHull, .instanceMethod yX4_onHull, .selects RX4 yX4_onHull yX4_onHull, .initialized RX4, .code yX4_onHull cX4_onHull 4 (some .int), .fieldLink RX4 16 "CircleCellsModel" "size" "[I", .fieldLink RX4 19 "CircleCellsModel" "round" "[I", .methodLink RX4 89 yX4_after, .instanceMethod yX4_after, .selects RX4 yX4_after yX4_after, .code yX4_after cX4_after 3 (some .int), .methodLink RX4 92 yX4_withSide, .instanceMethod yX4_withSide, .selects RX4 yX4_withSide yX4_withSide, .code yX4_withSide cX4_withSide 6 (some .int), .fieldLink RX4 22 "CircleCellsModel" "order" "[I"] ++ wsX40)
def wsX4_make_r1 : List Cond := [Cond.fieldLink RX4 47 "CircleCellsModel" "made" "Z", Cond.fieldLink RX4 65 "CircleCellsModel" "cells" "I", Cond.fieldLink RX4 72 "CircleCellsModel" "hullSize" "I", Cond.fieldLink RX4 32 "CircleCellsModel" "sites" "I", Cond.fieldLink RX4 7 "CircleCellsModel" "x" "[I", Cond.fieldLink RX4 13 "CircleCellsModel" "y" "[I", Cond.fieldLink RX4 22 "CircleCellsModel" "order" "[I", Cond.methodLink RX4 62 yX4_turn, Cond.instanceMethod yX4_turn, Cond.selects RX4 yX4_turn yX4_turn, Cond.initialized RX4, Cond.code yX4_turn cX4_turn 5 (some .long), Cond.methodLink RX4 75 yX4_onCircle, Cond.instanceMethod yX4_onCircle, Cond.selects RX4 yX4_onCircle yX4_onCircle, Cond.code yX4_onCircle cX4_onCircle 8 (some .int), Cond.methodLink RX4 58 yX4_power, Cond.instanceMethod yX4_power, Cond.selects RX4 yX4_power yX4_power, Cond.code yX4_power cX4_power 21 (some .long), Cond.methodLink RX4 54 yX4_square, Cond.instanceMethod yX4_square, Cond.selects RX4 yX4_square yX4_square, Cond.code yX4_square cX4_square 3 (some .long)]
def wsX4_make_r2 : List Cond := [Cond.methodLink RX4 79 yX4_add, Cond.instanceMethod yX4_add, Cond.selects RX4 yX4_add yX4_add, Cond.code yX4_add cX4_add 5 none, Cond.fieldLink RX4 19 "CircleCellsModel" "round" "[I", Cond.fieldLink RX4 16 "CircleCellsModel" "size" "[I", Cond.methodLink RX4 68 yX4_behind, Cond.instanceMethod yX4_behind, Cond.selects RX4 yX4_behind yX4_behind, Cond.code yX4_behind cX4_behind 6 (some .int), Cond.methodLink RX4 83 yX4_isBefore, Cond.instanceMethod yX4_isBefore, Cond.selects RX4 yX4_isBefore yX4_isBefore, Cond.code yX4_isBefore cX4_isBefore 4 (some .boolean), Cond.methodLink RX4 86 yX4_surround, Cond.instanceMethod yX4_surround, Cond.selects RX4 yX4_surround yX4_surround, Cond.code yX4_surround cX4_surround 3 none, Cond.fieldLink RX4 25 "CircleCellsModel" "hull" "[I", Cond.methodLink RX4 95 yX4_onHull, Cond.instanceMethod yX4_onHull, Cond.selects RX4 yX4_onHull yX4_onHull, Cond.code yX4_onHull cX4_onHull 4 (some .int), Cond.methodLink RX4 89 yX4_after]
def wsX4_make_r3 : List Cond := [Cond.instanceMethod yX4_after, Cond.selects RX4 yX4_after yX4_after, Cond.code yX4_after cX4_after 3 (some .int), Cond.methodLink RX4 92 yX4_withSide, Cond.instanceMethod yX4_withSide, Cond.selects RX4 yX4_withSide yX4_withSide, Cond.code yX4_withSide cX4_withSide 6 (some .int)]
def wsX4_make : List Cond := .code yX4_make cX4_make 6 none :: ((wsX4_make_r1 ++ (wsX4_make_r2 ++ wsX4_make_r3)) ++ wsX40)
def wsX4_cells_r1 : List Cond := [Cond.fieldLink RX4 28 "CircleCellsModel" "thrown" "I", Cond.fieldLink RX4 65 "CircleCellsModel" "cells" "I", Cond.methodLink RX4 99 yX4_make, Cond.instanceMethod yX4_make, Cond.selects RX4 yX4_make yX4_make, Cond.initialized RX4, Cond.code yX4_make cX4_make 6 none, Cond.fieldLink RX4 47 "CircleCellsModel" "made" "Z", Cond.fieldLink RX4 72 "CircleCellsModel" "hullSize" "I", Cond.fieldLink RX4 32 "CircleCellsModel" "sites" "I", Cond.fieldLink RX4 7 "CircleCellsModel" "x" "[I", Cond.fieldLink RX4 13 "CircleCellsModel" "y" "[I", Cond.fieldLink RX4 22 "CircleCellsModel" "order" "[I", Cond.methodLink RX4 62 yX4_turn, Cond.instanceMethod yX4_turn, Cond.selects RX4 yX4_turn yX4_turn, Cond.code yX4_turn cX4_turn 5 (some .long), Cond.methodLink RX4 75 yX4_onCircle, Cond.instanceMethod yX4_onCircle, Cond.selects RX4 yX4_onCircle yX4_onCircle, Cond.code yX4_onCircle cX4_onCircle 8 (some .int), Cond.methodLink RX4 58 yX4_power, Cond.instanceMethod yX4_power, Cond.selects RX4 yX4_power yX4_power]
def wsX4_cells_r2 : List Cond := [Cond.code yX4_power cX4_power 21 (some .long), Cond.methodLink RX4 54 yX4_square, Cond.instanceMethod yX4_square, Cond.selects RX4 yX4_square yX4_square, Cond.code yX4_square cX4_square 3 (some .long), Cond.methodLink RX4 79 yX4_add, Cond.instanceMethod yX4_add, Cond.selects RX4 yX4_add yX4_add, Cond.code yX4_add cX4_add 5 none, Cond.fieldLink RX4 19 "CircleCellsModel" "round" "[I", Cond.fieldLink RX4 16 "CircleCellsModel" "size" "[I", Cond.methodLink RX4 68 yX4_behind, Cond.instanceMethod yX4_behind, Cond.selects RX4 yX4_behind yX4_behind, Cond.code yX4_behind cX4_behind 6 (some .int), Cond.methodLink RX4 83 yX4_isBefore, Cond.instanceMethod yX4_isBefore, Cond.selects RX4 yX4_isBefore yX4_isBefore, Cond.code yX4_isBefore cX4_isBefore 4 (some .boolean), Cond.methodLink RX4 86 yX4_surround, Cond.instanceMethod yX4_surround, Cond.selects RX4 yX4_surround yX4_surround, Cond.code yX4_surround cX4_surround 3 none, Cond.fieldLink RX4 25 "CircleCellsModel" "hull" "[I"]
def wsX4_cells_r3 : List Cond := [Cond.methodLink RX4 95 yX4_onHull, Cond.instanceMethod yX4_onHull, Cond.selects RX4 yX4_onHull yX4_onHull, Cond.code yX4_onHull cX4_onHull 4 (some .int), Cond.methodLink RX4 89 yX4_after, Cond.instanceMethod yX4_after, Cond.selects RX4 yX4_after yX4_after, Cond.code yX4_after cX4_after 3 (some .int), Cond.methodLink RX4 92 yX4_withSide, Cond.instanceMethod yX4_withSide, Cond.selects RX4 yX4_withSide yX4_withSide, Cond.code yX4_withSide cX4_withSide 6 (some .int)]
def wsX4_cells : List Cond := .code yX4_cells cX4_cells 1 (some .int) :: ((wsX4_cells_r1 ++ (wsX4_cells_r2 ++ wsX4_cells_r3)) ++ wsX40)
def wsX4_cell_r1 : List Cond := [Cond.fieldLink RX4 65 "CircleCellsModel" "cells" "I", Cond.fieldLink RX4 22 "CircleCellsModel" "order" "[I", Cond.fieldLink RX4 16 "CircleCellsModel" "size" "[I", Cond.fieldLink RX4 19 "CircleCellsModel" "round" "[I", Cond.methodLink RX4 99 yX4_make, Cond.instanceMethod yX4_make, Cond.selects RX4 yX4_make yX4_make, Cond.initialized RX4, Cond.code yX4_make cX4_make 6 none, Cond.fieldLink RX4 47 "CircleCellsModel" "made" "Z", Cond.fieldLink RX4 72 "CircleCellsModel" "hullSize" "I", Cond.fieldLink RX4 32 "CircleCellsModel" "sites" "I", Cond.fieldLink RX4 7 "CircleCellsModel" "x" "[I", Cond.fieldLink RX4 13 "CircleCellsModel" "y" "[I", Cond.methodLink RX4 62 yX4_turn, Cond.instanceMethod yX4_turn, Cond.selects RX4 yX4_turn yX4_turn, Cond.code yX4_turn cX4_turn 5 (some .long), Cond.methodLink RX4 75 yX4_onCircle, Cond.instanceMethod yX4_onCircle, Cond.selects RX4 yX4_onCircle yX4_onCircle, Cond.code yX4_onCircle cX4_onCircle 8 (some .int), Cond.methodLink RX4 58 yX4_power, Cond.instanceMethod yX4_power]
def wsX4_cell_r2 : List Cond := [Cond.selects RX4 yX4_power yX4_power, Cond.code yX4_power cX4_power 21 (some .long), Cond.methodLink RX4 54 yX4_square, Cond.instanceMethod yX4_square, Cond.selects RX4 yX4_square yX4_square, Cond.code yX4_square cX4_square 3 (some .long), Cond.methodLink RX4 79 yX4_add, Cond.instanceMethod yX4_add, Cond.selects RX4 yX4_add yX4_add, Cond.code yX4_add cX4_add 5 none, Cond.methodLink RX4 68 yX4_behind, Cond.instanceMethod yX4_behind, Cond.selects RX4 yX4_behind yX4_behind, Cond.code yX4_behind cX4_behind 6 (some .int), Cond.methodLink RX4 83 yX4_isBefore, Cond.instanceMethod yX4_isBefore, Cond.selects RX4 yX4_isBefore yX4_isBefore, Cond.code yX4_isBefore cX4_isBefore 4 (some .boolean), Cond.methodLink RX4 86 yX4_surround, Cond.instanceMethod yX4_surround, Cond.selects RX4 yX4_surround yX4_surround, Cond.code yX4_surround cX4_surround 3 none, Cond.fieldLink RX4 25 "CircleCellsModel" "hull" "[I", Cond.methodLink RX4 95 yX4_onHull]
def wsX4_cell_r3 : List Cond := [Cond.instanceMethod yX4_onHull, Cond.selects RX4 yX4_onHull yX4_onHull, Cond.code yX4_onHull cX4_onHull 4 (some .int), Cond.methodLink RX4 89 yX4_after, Cond.instanceMethod yX4_after, Cond.selects RX4 yX4_after yX4_after, Cond.code yX4_after cX4_after 3 (some .int), Cond.methodLink RX4 92 yX4_withSide, Cond.instanceMethod yX4_withSide, Cond.selects RX4 yX4_withSide yX4_withSide, Cond.code yX4_withSide cX4_withSide 6 (some .int), Cond.methodLink RX4 51 yX4_out, Cond.static yX4_out, Cond.code yX4_out cX4_out 2 (some .boolean), Cond.methodLink RX4 43 yX4_throwing, Cond.instanceMethod yX4_throwing, Cond.selects RX4 yX4_throwing yX4_throwing, Cond.code yX4_throwing cX4_throwing 3 (some .boolean), Cond.fieldLink RX4 28 "CircleCellsModel" "thrown" "I"]
def wsX4_cell : List Cond := .code yX4_cell cX4_cell 5 (some .int) :: ((wsX4_cell_r1 ++ (wsX4_cell_r2 ++ wsX4_cell_r3)) ++ wsX40)
def wsX4_beside_r1 : List Cond := [Cond.fieldLink RX4 65 "CircleCellsModel" "cells" "I", Cond.fieldLink RX4 22 "CircleCellsModel" "order" "[I", Cond.fieldLink RX4 16 "CircleCellsModel" "size" "[I", Cond.fieldLink RX4 19 "CircleCellsModel" "round" "[I", Cond.methodLink RX4 99 yX4_make, Cond.instanceMethod yX4_make, Cond.selects RX4 yX4_make yX4_make, Cond.initialized RX4, Cond.code yX4_make cX4_make 6 none, Cond.fieldLink RX4 47 "CircleCellsModel" "made" "Z", Cond.fieldLink RX4 72 "CircleCellsModel" "hullSize" "I", Cond.fieldLink RX4 32 "CircleCellsModel" "sites" "I", Cond.fieldLink RX4 7 "CircleCellsModel" "x" "[I", Cond.fieldLink RX4 13 "CircleCellsModel" "y" "[I", Cond.methodLink RX4 62 yX4_turn, Cond.instanceMethod yX4_turn, Cond.selects RX4 yX4_turn yX4_turn, Cond.code yX4_turn cX4_turn 5 (some .long), Cond.methodLink RX4 75 yX4_onCircle, Cond.instanceMethod yX4_onCircle, Cond.selects RX4 yX4_onCircle yX4_onCircle, Cond.code yX4_onCircle cX4_onCircle 8 (some .int), Cond.methodLink RX4 58 yX4_power, Cond.instanceMethod yX4_power]
def wsX4_beside_r2 : List Cond := [Cond.selects RX4 yX4_power yX4_power, Cond.code yX4_power cX4_power 21 (some .long), Cond.methodLink RX4 54 yX4_square, Cond.instanceMethod yX4_square, Cond.selects RX4 yX4_square yX4_square, Cond.code yX4_square cX4_square 3 (some .long), Cond.methodLink RX4 79 yX4_add, Cond.instanceMethod yX4_add, Cond.selects RX4 yX4_add yX4_add, Cond.code yX4_add cX4_add 5 none, Cond.methodLink RX4 68 yX4_behind, Cond.instanceMethod yX4_behind, Cond.selects RX4 yX4_behind yX4_behind, Cond.code yX4_behind cX4_behind 6 (some .int), Cond.methodLink RX4 83 yX4_isBefore, Cond.instanceMethod yX4_isBefore, Cond.selects RX4 yX4_isBefore yX4_isBefore, Cond.code yX4_isBefore cX4_isBefore 4 (some .boolean), Cond.methodLink RX4 86 yX4_surround, Cond.instanceMethod yX4_surround, Cond.selects RX4 yX4_surround yX4_surround, Cond.code yX4_surround cX4_surround 3 none, Cond.fieldLink RX4 25 "CircleCellsModel" "hull" "[I", Cond.methodLink RX4 95 yX4_onHull]
def wsX4_beside_r3 : List Cond := [Cond.instanceMethod yX4_onHull, Cond.selects RX4 yX4_onHull yX4_onHull, Cond.code yX4_onHull cX4_onHull 4 (some .int), Cond.methodLink RX4 89 yX4_after, Cond.instanceMethod yX4_after, Cond.selects RX4 yX4_after yX4_after, Cond.code yX4_after cX4_after 3 (some .int), Cond.methodLink RX4 92 yX4_withSide, Cond.instanceMethod yX4_withSide, Cond.selects RX4 yX4_withSide yX4_withSide, Cond.code yX4_withSide cX4_withSide 6 (some .int), Cond.methodLink RX4 51 yX4_out, Cond.static yX4_out, Cond.code yX4_out cX4_out 2 (some .boolean), Cond.methodLink RX4 43 yX4_throwing, Cond.instanceMethod yX4_throwing, Cond.selects RX4 yX4_throwing yX4_throwing, Cond.code yX4_throwing cX4_throwing 3 (some .boolean), Cond.fieldLink RX4 28 "CircleCellsModel" "thrown" "I"]
def wsX4_beside : List Cond := .code yX4_beside cX4_beside 5 (some .int) :: ((wsX4_beside_r1 ++ (wsX4_beside_r2 ++ wsX4_beside_r3)) ++ wsX40)
def wsX4_divisor : List Cond := .code yX4_divisor cX4_divisor 8 (some .long) :: ([])
def wsX4_centre_r1 : List Cond := [Cond.fieldLink RX4 65 "CircleCellsModel" "cells" "I", Cond.fieldLink RX4 28 "CircleCellsModel" "thrown" "I", Cond.fieldLink RX4 22 "CircleCellsModel" "order" "[I", Cond.fieldLink RX4 19 "CircleCellsModel" "round" "[I", Cond.fieldLink RX4 7 "CircleCellsModel" "x" "[I", Cond.fieldLink RX4 13 "CircleCellsModel" "y" "[I", Cond.constantLong RX4 102 (2), Cond.methodLink RX4 99 yX4_make, Cond.instanceMethod yX4_make, Cond.selects RX4 yX4_make yX4_make, Cond.initialized RX4, Cond.code yX4_make cX4_make 6 none, Cond.fieldLink RX4 47 "CircleCellsModel" "made" "Z", Cond.fieldLink RX4 72 "CircleCellsModel" "hullSize" "I", Cond.fieldLink RX4 32 "CircleCellsModel" "sites" "I", Cond.methodLink RX4 62 yX4_turn, Cond.instanceMethod yX4_turn, Cond.selects RX4 yX4_turn yX4_turn, Cond.code yX4_turn cX4_turn 5 (some .long), Cond.methodLink RX4 75 yX4_onCircle, Cond.instanceMethod yX4_onCircle, Cond.selects RX4 yX4_onCircle yX4_onCircle, Cond.code yX4_onCircle cX4_onCircle 8 (some .int), Cond.methodLink RX4 58 yX4_power]
def wsX4_centre_r2 : List Cond := [Cond.instanceMethod yX4_power, Cond.selects RX4 yX4_power yX4_power, Cond.code yX4_power cX4_power 21 (some .long), Cond.methodLink RX4 54 yX4_square, Cond.instanceMethod yX4_square, Cond.selects RX4 yX4_square yX4_square, Cond.code yX4_square cX4_square 3 (some .long), Cond.methodLink RX4 79 yX4_add, Cond.instanceMethod yX4_add, Cond.selects RX4 yX4_add yX4_add, Cond.code yX4_add cX4_add 5 none, Cond.fieldLink RX4 16 "CircleCellsModel" "size" "[I", Cond.methodLink RX4 68 yX4_behind, Cond.instanceMethod yX4_behind, Cond.selects RX4 yX4_behind yX4_behind, Cond.code yX4_behind cX4_behind 6 (some .int), Cond.methodLink RX4 83 yX4_isBefore, Cond.instanceMethod yX4_isBefore, Cond.selects RX4 yX4_isBefore yX4_isBefore, Cond.code yX4_isBefore cX4_isBefore 4 (some .boolean), Cond.methodLink RX4 86 yX4_surround, Cond.instanceMethod yX4_surround, Cond.selects RX4 yX4_surround yX4_surround, Cond.code yX4_surround cX4_surround 3 none]
def wsX4_centre_r3 : List Cond := [Cond.fieldLink RX4 25 "CircleCellsModel" "hull" "[I", Cond.methodLink RX4 95 yX4_onHull, Cond.instanceMethod yX4_onHull, Cond.selects RX4 yX4_onHull yX4_onHull, Cond.code yX4_onHull cX4_onHull 4 (some .int), Cond.methodLink RX4 89 yX4_after, Cond.instanceMethod yX4_after, Cond.selects RX4 yX4_after yX4_after, Cond.code yX4_after cX4_after 3 (some .int), Cond.methodLink RX4 92 yX4_withSide, Cond.instanceMethod yX4_withSide, Cond.selects RX4 yX4_withSide yX4_withSide, Cond.code yX4_withSide cX4_withSide 6 (some .int), Cond.methodLink RX4 51 yX4_out, Cond.static yX4_out, Cond.code yX4_out cX4_out 2 (some .boolean), Cond.methodLink RX4 104 yX4_divisor, Cond.static yX4_divisor, Cond.code yX4_divisor cX4_divisor 8 (some .long)]
def wsX4_centre : List Cond := .code yX4_centre cX4_centre 22 (some .long) :: ((wsX4_centre_r1 ++ (wsX4_centre_r2 ++ wsX4_centre_r3)) ++ wsX40)
def wsX4_hull_r1 : List Cond := [Cond.fieldLink RX4 72 "CircleCellsModel" "hullSize" "I", Cond.fieldLink RX4 25 "CircleCellsModel" "hull" "[I", Cond.methodLink RX4 99 yX4_make, Cond.instanceMethod yX4_make, Cond.selects RX4 yX4_make yX4_make, Cond.initialized RX4, Cond.code yX4_make cX4_make 6 none, Cond.fieldLink RX4 47 "CircleCellsModel" "made" "Z", Cond.fieldLink RX4 65 "CircleCellsModel" "cells" "I", Cond.fieldLink RX4 32 "CircleCellsModel" "sites" "I", Cond.fieldLink RX4 7 "CircleCellsModel" "x" "[I", Cond.fieldLink RX4 13 "CircleCellsModel" "y" "[I", Cond.fieldLink RX4 22 "CircleCellsModel" "order" "[I", Cond.methodLink RX4 62 yX4_turn, Cond.instanceMethod yX4_turn, Cond.selects RX4 yX4_turn yX4_turn, Cond.code yX4_turn cX4_turn 5 (some .long), Cond.methodLink RX4 75 yX4_onCircle, Cond.instanceMethod yX4_onCircle, Cond.selects RX4 yX4_onCircle yX4_onCircle, Cond.code yX4_onCircle cX4_onCircle 8 (some .int), Cond.methodLink RX4 58 yX4_power, Cond.instanceMethod yX4_power, Cond.selects RX4 yX4_power yX4_power]
def wsX4_hull_r2 : List Cond := [Cond.code yX4_power cX4_power 21 (some .long), Cond.methodLink RX4 54 yX4_square, Cond.instanceMethod yX4_square, Cond.selects RX4 yX4_square yX4_square, Cond.code yX4_square cX4_square 3 (some .long), Cond.methodLink RX4 79 yX4_add, Cond.instanceMethod yX4_add, Cond.selects RX4 yX4_add yX4_add, Cond.code yX4_add cX4_add 5 none, Cond.fieldLink RX4 19 "CircleCellsModel" "round" "[I", Cond.fieldLink RX4 16 "CircleCellsModel" "size" "[I", Cond.methodLink RX4 68 yX4_behind, Cond.instanceMethod yX4_behind, Cond.selects RX4 yX4_behind yX4_behind, Cond.code yX4_behind cX4_behind 6 (some .int), Cond.methodLink RX4 83 yX4_isBefore, Cond.instanceMethod yX4_isBefore, Cond.selects RX4 yX4_isBefore yX4_isBefore, Cond.code yX4_isBefore cX4_isBefore 4 (some .boolean), Cond.methodLink RX4 86 yX4_surround, Cond.instanceMethod yX4_surround, Cond.selects RX4 yX4_surround yX4_surround, Cond.code yX4_surround cX4_surround 3 none, Cond.methodLink RX4 95 yX4_onHull]
def wsX4_hull_r3 : List Cond := [Cond.instanceMethod yX4_onHull, Cond.selects RX4 yX4_onHull yX4_onHull, Cond.code yX4_onHull cX4_onHull 4 (some .int), Cond.methodLink RX4 89 yX4_after, Cond.instanceMethod yX4_after, Cond.selects RX4 yX4_after yX4_after, Cond.code yX4_after cX4_after 3 (some .int), Cond.methodLink RX4 92 yX4_withSide, Cond.instanceMethod yX4_withSide, Cond.selects RX4 yX4_withSide yX4_withSide, Cond.code yX4_withSide cX4_withSide 6 (some .int), Cond.methodLink RX4 43 yX4_throwing, Cond.instanceMethod yX4_throwing, Cond.selects RX4 yX4_throwing yX4_throwing, Cond.code yX4_throwing cX4_throwing 3 (some .boolean), Cond.fieldLink RX4 28 "CircleCellsModel" "thrown" "I"]
def wsX4_hull : List Cond := .code yX4_hull cX4_hull 2 (some .int) :: ((wsX4_hull_r1 ++ (wsX4_hull_r2 ++ wsX4_hull_r3)) ++ wsX40)
def wsX4_around_r1 : List Cond := [Cond.fieldLink RX4 65 "CircleCellsModel" "cells" "I", Cond.fieldLink RX4 22 "CircleCellsModel" "order" "[I", Cond.fieldLink RX4 16 "CircleCellsModel" "size" "[I", Cond.fieldLink RX4 19 "CircleCellsModel" "round" "[I", Cond.methodLink RX4 35 yX4_isFar, Cond.static yX4_isFar, Cond.initialized RX4, Cond.code yX4_isFar cX4_isFar 2 (some .boolean), Cond.methodLink RX4 43 yX4_throwing, Cond.instanceMethod yX4_throwing, Cond.selects RX4 yX4_throwing yX4_throwing, Cond.code yX4_throwing cX4_throwing 3 (some .boolean), Cond.fieldLink RX4 28 "CircleCellsModel" "thrown" "I", Cond.methodLink RX4 99 yX4_make, Cond.instanceMethod yX4_make, Cond.selects RX4 yX4_make yX4_make, Cond.code yX4_make cX4_make 6 none, Cond.fieldLink RX4 47 "CircleCellsModel" "made" "Z", Cond.fieldLink RX4 72 "CircleCellsModel" "hullSize" "I", Cond.fieldLink RX4 32 "CircleCellsModel" "sites" "I", Cond.fieldLink RX4 7 "CircleCellsModel" "x" "[I", Cond.fieldLink RX4 13 "CircleCellsModel" "y" "[I", Cond.methodLink RX4 62 yX4_turn, Cond.instanceMethod yX4_turn]
def wsX4_around_r2 : List Cond := [Cond.selects RX4 yX4_turn yX4_turn, Cond.code yX4_turn cX4_turn 5 (some .long), Cond.methodLink RX4 75 yX4_onCircle, Cond.instanceMethod yX4_onCircle, Cond.selects RX4 yX4_onCircle yX4_onCircle, Cond.code yX4_onCircle cX4_onCircle 8 (some .int), Cond.methodLink RX4 58 yX4_power, Cond.instanceMethod yX4_power, Cond.selects RX4 yX4_power yX4_power, Cond.code yX4_power cX4_power 21 (some .long), Cond.methodLink RX4 54 yX4_square, Cond.instanceMethod yX4_square, Cond.selects RX4 yX4_square yX4_square, Cond.code yX4_square cX4_square 3 (some .long), Cond.methodLink RX4 79 yX4_add, Cond.instanceMethod yX4_add, Cond.selects RX4 yX4_add yX4_add, Cond.code yX4_add cX4_add 5 none, Cond.methodLink RX4 68 yX4_behind, Cond.instanceMethod yX4_behind, Cond.selects RX4 yX4_behind yX4_behind, Cond.code yX4_behind cX4_behind 6 (some .int), Cond.methodLink RX4 83 yX4_isBefore, Cond.instanceMethod yX4_isBefore]
def wsX4_around_r3 : List Cond := [Cond.selects RX4 yX4_isBefore yX4_isBefore, Cond.code yX4_isBefore cX4_isBefore 4 (some .boolean), Cond.methodLink RX4 86 yX4_surround, Cond.instanceMethod yX4_surround, Cond.selects RX4 yX4_surround yX4_surround, Cond.code yX4_surround cX4_surround 3 none, Cond.fieldLink RX4 25 "CircleCellsModel" "hull" "[I", Cond.methodLink RX4 95 yX4_onHull, Cond.instanceMethod yX4_onHull, Cond.selects RX4 yX4_onHull yX4_onHull, Cond.code yX4_onHull cX4_onHull 4 (some .int), Cond.methodLink RX4 89 yX4_after, Cond.instanceMethod yX4_after, Cond.selects RX4 yX4_after yX4_after, Cond.code yX4_after cX4_after 3 (some .int), Cond.methodLink RX4 92 yX4_withSide, Cond.instanceMethod yX4_withSide, Cond.selects RX4 yX4_withSide yX4_withSide, Cond.code yX4_withSide cX4_withSide 6 (some .int)]
def wsX4_around : List Cond := .code yX4_around cX4_around 7 (some .int) :: ((wsX4_around_r1 ++ (wsX4_around_r2 ++ wsX4_around_r3)) ++ wsX40)
def wsX4_nearest : List Cond := .code yX4_nearest cX4_nearest 10 (some .int) :: ([.fieldLink RX4 32 "CircleCellsModel" "sites" "I", .fieldLink RX4 7 "CircleCellsModel" "x" "[I", .fieldLink RX4 13 "CircleCellsModel" "y" "[I", .methodLink RX4 35 yX4_isFar, .static yX4_isFar, .initialized RX4, .code yX4_isFar cX4_isFar 2 (some .boolean), .methodLink RX4 43 yX4_throwing, .instanceMethod yX4_throwing, .selects RX4 yX4_throwing yX4_throwing, .code yX4_throwing cX4_throwing 3 (some .boolean), .fieldLink RX4 28 "CircleCellsModel" "thrown" "I"] ++ wsX40)
def wsJ9_abs_067f4 : List Cond := .code yJ9_abs_067f4 cJ9_abs_067f4 2 (some .long) :: ([])
def wsL_site_r1 : List Cond := [Cond.classLink RL 13 "java/lang/IllegalArgumentException", Cond.classLink RL 15 "java/lang/IllegalStateException", Cond.methodLink RL 7 yX3_site, Cond.instanceMethod yX3_site, Cond.selects RX3 yX3_site yX3_site, Cond.initialized RX3, Cond.code yX3_site cX3_site 3 (some .int), Cond.classLink RX3 37 "java/lang/IllegalArgumentException", Cond.initialized "java/lang/IllegalArgumentException", Cond.classLink RX3 48 "java/lang/IllegalStateException", Cond.initialized "java/lang/IllegalStateException", Cond.fieldLink RX3 12 "CircleCells" "sites" "LCircleCells$Sites;", Cond.fieldLink RX3 44 "CircleCells$Sites" "size" "I", Cond.fieldLink RX3 25 "CircleCells" "stale" "Z", Cond.methodLink RX3 29 yX3_requirePlace, Cond.static yX3_requirePlace, Cond.code yX3_requirePlace cX3_requirePlace 2 none, Cond.methodLink RX3 33 yX2_numberAt, Cond.instanceMethod yX2_numberAt, Cond.selects RX2 yX2_numberAt yX2_numberAt, Cond.initialized RX2, Cond.code yX2_numberAt cX2_numberAt 4 (some .int), Cond.fieldLink RX2 18 "CircleCells$Sites" "size" "I", Cond.fieldLink RX2 9 "CircleCells$Sites" "x" "[I"]
def wsL_site_r2 : List Cond := [Cond.fieldLink RX2 15 "CircleCells$Sites" "y" "[I", Cond.methodLink RX3 53 yX2_append, Cond.instanceMethod yX2_append, Cond.selects RX2 yX2_append yX2_append, Cond.code yX2_append cX2_append 4 (some .int), Cond.methodLink RX2 22 yX2_put, Cond.instanceMethod yX2_put, Cond.selects RX2 yX2_put yX2_put, Cond.code yX2_put cX2_put 4 none]
def wsL_site : List Cond := .codeWith yL_site cL_site 5 (some .int) [(0, 10, 13, 13), (0, 10, 17, 15)] :: ((wsL_site_r1 ++ wsL_site_r2) ++ wsX30 ++ wsX20 ++ (vx_atS RX3 41 "java/lang/IllegalArgumentException" ["java/lang/RuntimeException", "java/lang/Exception"]).filter goodWord ++ (vx_atS RX3 52 "java/lang/IllegalStateException" ["java/lang/RuntimeException", "java/lang/Exception"]).filter goodWord)
def wsL_remove_r1 : List Cond := [Cond.classLink RL 13 "java/lang/IllegalArgumentException", Cond.methodLink RL 17 yX3_remove, Cond.instanceMethod yX3_remove, Cond.selects RX3 yX3_remove yX3_remove, Cond.initialized RX3, Cond.code yX3_remove cX3_remove 2 none, Cond.fieldLink RX3 25 "CircleCells" "stale" "Z", Cond.fieldLink RX3 12 "CircleCells" "sites" "LCircleCells$Sites;", Cond.methodLink RX3 56 yX3_requireSite, Cond.instanceMethod yX3_requireSite, Cond.selects RX3 yX3_requireSite yX3_requireSite, Cond.code yX3_requireSite cX3_requireSite 2 none, Cond.classLink RX3 37 "java/lang/IllegalArgumentException", Cond.initialized "java/lang/IllegalArgumentException", Cond.fieldLink RX3 44 "CircleCells$Sites" "size" "I", Cond.methodLink RX3 60 yX2_drop, Cond.instanceMethod yX2_drop, Cond.selects RX2 yX2_drop yX2_drop, Cond.initialized RX2, Cond.code yX2_drop cX2_drop 3 none, Cond.fieldLink RX2 18 "CircleCells$Sites" "size" "I", Cond.fieldLink RX2 9 "CircleCells$Sites" "x" "[I", Cond.fieldLink RX2 15 "CircleCells$Sites" "y" "[I", Cond.methodLink RX2 22 yX2_put]
def wsL_remove_r2 : List Cond := [Cond.instanceMethod yX2_put, Cond.selects RX2 yX2_put yX2_put, Cond.code yX2_put cX2_put 4 none]
def wsL_remove : List Cond := .codeWith yL_remove cL_remove 3 (some .int) [(0, 5, 8, 13)] :: ((wsL_remove_r1 ++ wsL_remove_r2) ++ wsX30 ++ wsX20 ++ (vx_atS RX3 41 "java/lang/IllegalArgumentException" ["java/lang/RuntimeException", "java/lang/Exception"]).filter goodWord)
def wsL_move_r1 : List Cond := [Cond.classLink RL 13 "java/lang/IllegalArgumentException", Cond.methodLink RL 21 yX3_move, Cond.instanceMethod yX3_move, Cond.selects RX3 yX3_move yX3_move, Cond.initialized RX3, Cond.code yX3_move cX3_move 5 none, Cond.classLink RX3 37 "java/lang/IllegalArgumentException", Cond.initialized "java/lang/IllegalArgumentException", Cond.fieldLink RX3 12 "CircleCells" "sites" "LCircleCells$Sites;", Cond.fieldLink RX3 25 "CircleCells" "stale" "Z", Cond.methodLink RX3 56 yX3_requireSite, Cond.instanceMethod yX3_requireSite, Cond.selects RX3 yX3_requireSite yX3_requireSite, Cond.code yX3_requireSite cX3_requireSite 2 none, Cond.fieldLink RX3 44 "CircleCells$Sites" "size" "I", Cond.methodLink RX3 29 yX3_requirePlace, Cond.static yX3_requirePlace, Cond.code yX3_requirePlace cX3_requirePlace 2 none, Cond.methodLink RX3 33 yX2_numberAt, Cond.instanceMethod yX2_numberAt, Cond.selects RX2 yX2_numberAt yX2_numberAt, Cond.initialized RX2, Cond.code yX2_numberAt cX2_numberAt 4 (some .int), Cond.fieldLink RX2 18 "CircleCells$Sites" "size" "I"]
def wsL_move_r2 : List Cond := [Cond.fieldLink RX2 9 "CircleCells$Sites" "x" "[I", Cond.fieldLink RX2 15 "CircleCells$Sites" "y" "[I", Cond.methodLink RX3 65 yX2_put, Cond.instanceMethod yX2_put, Cond.selects RX2 yX2_put yX2_put, Cond.code yX2_put cX2_put 4 none]
def wsL_move : List Cond := .codeWith yL_move cL_move 5 (some .int) [(0, 7, 10, 13)] :: ((wsL_move_r1 ++ wsL_move_r2) ++ wsX30 ++ wsX20 ++ (vx_atS RX3 41 "java/lang/IllegalArgumentException" ["java/lang/RuntimeException", "java/lang/Exception"]).filter goodWord)
def wsL_where : List Cond := .codeWith yL_where cL_where 5 (some .int) [(0, 10, 13, 13)] :: ([.classLink RL 13 "java/lang/IllegalArgumentException", .methodLink RL 25 yX3_where, .instanceMethod yX3_where, .selects RX3 yX3_where yX3_where, .initialized RX3, .code yX3_where cX3_where 3 (some .int), .classLink RX3 37 "java/lang/IllegalArgumentException", .initialized "java/lang/IllegalArgumentException", .fieldLink RX3 12 "CircleCells" "sites" "LCircleCells$Sites;", .fieldLink RX3 74 "CircleCells$Sites" "x" "[I", .fieldLink RX3 78 "CircleCells$Sites" "y" "[I", .methodLink RX3 56 yX3_requireSite, .instanceMethod yX3_requireSite, .selects RX3 yX3_requireSite yX3_requireSite, .code yX3_requireSite cX3_requireSite 2 none, .fieldLink RX3 44 "CircleCells$Sites" "size" "I"] ++ wsX30 ++ wsX20 ++ (vx_atS RX3 41 "java/lang/IllegalArgumentException" ["java/lang/RuntimeException", "java/lang/Exception"]).filter goodWord)
def wsL_cell_r1 : List Cond := [Cond.classLink RL 31 "java/util/NoSuchElementException", Cond.classLink RL 33 "java/lang/IndexOutOfBoundsException", Cond.methodLink RL 28 yX3_cell, Cond.instanceMethod yX3_cell, Cond.selects RX3 yX3_cell yX3_cell, Cond.initialized RX3, Cond.code yX3_cell cX3_cell 4 (some .int), Cond.fieldLink RX3 21 "CircleCells" "mosaic" "LCircleCells$Mosaic;", Cond.methodLink RX3 81 yX3_refresh, Cond.instanceMethod yX3_refresh, Cond.selects RX3 yX3_refresh yX3_refresh, Cond.code yX3_refresh cX3_refresh 1 none, Cond.fieldLink RX3 25 "CircleCells" "stale" "Z", Cond.methodLink RX3 143 yX1_build, Cond.instanceMethod yX1_build, Cond.selects RX1 yX1_build yX1_build, Cond.initialized RX1, Cond.code yX1_build cX1_build 3 none, Cond.fieldLink RX1 28 "CircleCells$Mosaic" "cellCount" "I", Cond.fieldLink RX1 25 "CircleCells$Mosaic" "owner" "[I", Cond.fieldLink RX1 38 "CircleCells$Mosaic" "sites" "LCircleCells$Sites;", Cond.fieldLink RX1 48 "CircleCells$Sites" "size" "I", Cond.methodLink RX1 42 yJ7_fill_53178, Cond.static yJ7_fill_53178]
def wsL_cell_r2 : List Cond := [Cond.initialized RJ7, Cond.code yJ7_fill_53178 cJ7_fill_53178 4 none, Cond.methodLink RX1 53 yX1_layLeftOf, Cond.instanceMethod yX1_layLeftOf, Cond.selects RX1 yX1_layLeftOf yX1_layLeftOf, Cond.code yX1_layLeftOf cX1_layLeftOf 5 (some .boolean), Cond.fieldLink RX1 12 "CircleCells$Mosaic" "circle" "LCircleCells$Circle;", Cond.methodLink RX1 67 yX2_turn_, Cond.instanceMethod yX2_turn_, Cond.selects RX2 yX2_turn_ yX2_turn_, Cond.initialized RX2, Cond.code yX2_turn_ cX2_turn_ 4 (some .int), Cond.fieldLink RX2 9 "CircleCells$Sites" "x" "[I", Cond.fieldLink RX2 15 "CircleCells$Sites" "y" "[I", Cond.methodLink RX2 30 yX2_turn, Cond.instanceMethod yX2_turn, Cond.selects RX2 yX2_turn yX2_turn, Cond.code yX2_turn cX2_turn 5 (some .int), Cond.methodLink RX1 71 yX1_powerOf, Cond.instanceMethod yX1_powerOf, Cond.selects RX1 yX1_powerOf yX1_powerOf, Cond.code yX1_powerOf cX1_powerOf 2 (some .long), Cond.fieldLink RX1 79 "CircleCells$Sites" "x" "[I", Cond.fieldLink RX1 82 "CircleCells$Sites" "y" "[I"]
def wsL_cell_r3 : List Cond := [Cond.methodLink RX1 85 yX0_power, Cond.instanceMethod yX0_power, Cond.selects RX0 yX0_power yX0_power, Cond.initialized RX0, Cond.code yX0_power cX0_power 7 (some .long), Cond.fieldLink RX0 13 "CircleCells$Circle" "fromX" "I", Cond.fieldLink RX0 22 "CircleCells$Circle" "fromY" "I", Cond.fieldLink RX0 34 "CircleCells$Circle" "span" "J", Cond.constantLong RX0 32 (2), Cond.fieldLink RX0 25 "CircleCells$Circle" "aimX" "J", Cond.fieldLink RX0 29 "CircleCells$Circle" "aimY" "J", Cond.methodLink RX1 75 yX0_layThrough, Cond.instanceMethod yX0_layThrough, Cond.selects RX0 yX0_layThrough yX0_layThrough, Cond.code yX0_layThrough cX0_layThrough 17 none, Cond.fieldLink RX0 7 "CircleCells$Sites" "x" "[I", Cond.fieldLink RX0 19 "CircleCells$Sites" "y" "[I", Cond.methodLink RX1 57 yX1_beginsCell, Cond.instanceMethod yX1_beginsCell, Cond.selects RX1 yX1_beginsCell yX1_beginsCell, Cond.code yX1_beginsCell cX1_beginsCell 7 (some .boolean), Cond.methodLink RX1 60 yX1_addCell, Cond.instanceMethod yX1_addCell, Cond.selects RX1 yX1_addCell yX1_addCell]
def wsL_cell_r4 : List Cond := [Cond.code yX1_addCell cX1_addCell 5 none, Cond.fieldLink RX1 22 "CircleCells$Mosaic" "start" "[I", Cond.methodLink RX1 89 yX1_insertRound, Cond.instanceMethod yX1_insertRound, Cond.selects RX1 yX1_insertRound yX1_insertRound, Cond.code yX1_insertRound cX1_insertRound 5 none, Cond.fieldLink RX1 18 "CircleCells$Mosaic" "ring" "[I", Cond.methodLink RX1 93 yX1_claimSides, Cond.instanceMethod yX1_claimSides, Cond.selects RX1 yX1_claimSides yX1_claimSides, Cond.code yX1_claimSides cX1_claimSides 4 none, Cond.methodLink RX1 96 yX1_sideCount, Cond.instanceMethod yX1_sideCount, Cond.selects RX1 yX1_sideCount yX1_sideCount, Cond.code yX1_sideCount cX1_sideCount 2 (some .int), Cond.methodLink RX1 100 yX1_siteOf, Cond.instanceMethod yX1_siteOf, Cond.selects RX1 yX1_siteOf yX1_siteOf, Cond.code yX1_siteOf cX1_siteOf 3 (some .int), Cond.methodLink RX1 104 yX1_siteAfter, Cond.instanceMethod yX1_siteAfter, Cond.selects RX1 yX1_siteAfter yX1_siteAfter, Cond.code yX1_siteAfter cX1_siteAfter 3 (some .int), Cond.methodLink RX1 107 yX1_sideKey]
def wsL_cell_r5 : List Cond := [Cond.static yX1_sideKey, Cond.code yX1_sideKey cX1_sideKey 2 (some .int), Cond.methodLink RX1 64 yX1_walkRim, Cond.instanceMethod yX1_walkRim, Cond.selects RX1 yX1_walkRim yX1_walkRim, Cond.code yX1_walkRim cX1_walkRim 4 none, Cond.fieldLink RX1 35 "CircleCells$Mosaic" "rimCount" "I", Cond.fieldLink RX1 32 "CircleCells$Mosaic" "rim" "[I", Cond.methodLink RX1 110 yX1_firstOnRim, Cond.instanceMethod yX1_firstOnRim, Cond.selects RX1 yX1_firstOnRim yX1_firstOnRim, Cond.code yX1_firstOnRim cX1_firstOnRim 2 (some .int), Cond.methodLink RX1 114 yX1_nextOnRim, Cond.instanceMethod yX1_nextOnRim, Cond.selects RX1 yX1_nextOnRim yX1_nextOnRim, Cond.code yX1_nextOnRim cX1_nextOnRim 3 (some .int), Cond.methodLink RX3 87 yX3_requireCell, Cond.instanceMethod yX3_requireCell, Cond.selects RX3 yX3_requireCell yX3_requireCell, Cond.code yX3_requireCell cX3_requireCell 2 none, Cond.classLink RX3 133 "java/util/NoSuchElementException", Cond.initialized "java/util/NoSuchElementException", Cond.fieldLink RX3 84 "CircleCells$Mosaic" "cellCount" "I", Cond.methodLink RX3 90 yX1_sideCount]
def wsL_cell_r6 : List Cond := [Cond.methodLink RX3 94 yX3_requireIndex, Cond.static yX3_requireIndex, Cond.code yX3_requireIndex cX3_requireIndex 2 none, Cond.classLink RX3 138 "java/lang/IndexOutOfBoundsException", Cond.initialized "java/lang/IndexOutOfBoundsException", Cond.methodLink RX3 97 yX1_siteOf]
def wsL_cell : List Cond := .codeWith yL_cell cL_cell 5 (some .int) [(0, 10, 13, 31), (0, 10, 17, 33)] :: ((wsL_cell_r1 ++ (wsL_cell_r2 ++ (wsL_cell_r3 ++ (wsL_cell_r4 ++ (wsL_cell_r5 ++ wsL_cell_r6))))) ++ wsX30 ++ wsX10 ++ wsX20 ++ wsX00 ++ (vx_atS RX3 137 "java/util/NoSuchElementException" ["java/lang/RuntimeException", "java/lang/Exception"]).filter goodWord ++ (vx_atS RX3 142 "java/lang/IndexOutOfBoundsException" ["java/lang/RuntimeException", "java/lang/Exception"]).filter goodWord)
def wsL_beside_r1 : List Cond := [Cond.classLink RL 31 "java/util/NoSuchElementException", Cond.classLink RL 33 "java/lang/IndexOutOfBoundsException", Cond.methodLink RL 35 yX3_beside, Cond.instanceMethod yX3_beside, Cond.selects RX3 yX3_beside yX3_beside, Cond.initialized RX3, Cond.code yX3_beside cX3_beside 3 (some .int), Cond.fieldLink RX3 21 "CircleCells" "mosaic" "LCircleCells$Mosaic;", Cond.methodLink RX3 81 yX3_refresh, Cond.instanceMethod yX3_refresh, Cond.selects RX3 yX3_refresh yX3_refresh, Cond.code yX3_refresh cX3_refresh 1 none, Cond.fieldLink RX3 25 "CircleCells" "stale" "Z", Cond.methodLink RX3 143 yX1_build, Cond.instanceMethod yX1_build, Cond.selects RX1 yX1_build yX1_build, Cond.initialized RX1, Cond.code yX1_build cX1_build 3 none, Cond.fieldLink RX1 28 "CircleCells$Mosaic" "cellCount" "I", Cond.fieldLink RX1 25 "CircleCells$Mosaic" "owner" "[I", Cond.fieldLink RX1 38 "CircleCells$Mosaic" "sites" "LCircleCells$Sites;", Cond.fieldLink RX1 48 "CircleCells$Sites" "size" "I", Cond.methodLink RX1 42 yJ7_fill_53178, Cond.static yJ7_fill_53178]
def wsL_beside_r2 : List Cond := [Cond.initialized RJ7, Cond.code yJ7_fill_53178 cJ7_fill_53178 4 none, Cond.methodLink RX1 53 yX1_layLeftOf, Cond.instanceMethod yX1_layLeftOf, Cond.selects RX1 yX1_layLeftOf yX1_layLeftOf, Cond.code yX1_layLeftOf cX1_layLeftOf 5 (some .boolean), Cond.fieldLink RX1 12 "CircleCells$Mosaic" "circle" "LCircleCells$Circle;", Cond.methodLink RX1 67 yX2_turn_, Cond.instanceMethod yX2_turn_, Cond.selects RX2 yX2_turn_ yX2_turn_, Cond.initialized RX2, Cond.code yX2_turn_ cX2_turn_ 4 (some .int), Cond.fieldLink RX2 9 "CircleCells$Sites" "x" "[I", Cond.fieldLink RX2 15 "CircleCells$Sites" "y" "[I", Cond.methodLink RX2 30 yX2_turn, Cond.instanceMethod yX2_turn, Cond.selects RX2 yX2_turn yX2_turn, Cond.code yX2_turn cX2_turn 5 (some .int), Cond.methodLink RX1 71 yX1_powerOf, Cond.instanceMethod yX1_powerOf, Cond.selects RX1 yX1_powerOf yX1_powerOf, Cond.code yX1_powerOf cX1_powerOf 2 (some .long), Cond.fieldLink RX1 79 "CircleCells$Sites" "x" "[I", Cond.fieldLink RX1 82 "CircleCells$Sites" "y" "[I"]
def wsL_beside_r3 : List Cond := [Cond.methodLink RX1 85 yX0_power, Cond.instanceMethod yX0_power, Cond.selects RX0 yX0_power yX0_power, Cond.initialized RX0, Cond.code yX0_power cX0_power 7 (some .long), Cond.fieldLink RX0 13 "CircleCells$Circle" "fromX" "I", Cond.fieldLink RX0 22 "CircleCells$Circle" "fromY" "I", Cond.fieldLink RX0 34 "CircleCells$Circle" "span" "J", Cond.constantLong RX0 32 (2), Cond.fieldLink RX0 25 "CircleCells$Circle" "aimX" "J", Cond.fieldLink RX0 29 "CircleCells$Circle" "aimY" "J", Cond.methodLink RX1 75 yX0_layThrough, Cond.instanceMethod yX0_layThrough, Cond.selects RX0 yX0_layThrough yX0_layThrough, Cond.code yX0_layThrough cX0_layThrough 17 none, Cond.fieldLink RX0 7 "CircleCells$Sites" "x" "[I", Cond.fieldLink RX0 19 "CircleCells$Sites" "y" "[I", Cond.methodLink RX1 57 yX1_beginsCell, Cond.instanceMethod yX1_beginsCell, Cond.selects RX1 yX1_beginsCell yX1_beginsCell, Cond.code yX1_beginsCell cX1_beginsCell 7 (some .boolean), Cond.methodLink RX1 60 yX1_addCell, Cond.instanceMethod yX1_addCell, Cond.selects RX1 yX1_addCell yX1_addCell]
def wsL_beside_r4 : List Cond := [Cond.code yX1_addCell cX1_addCell 5 none, Cond.fieldLink RX1 22 "CircleCells$Mosaic" "start" "[I", Cond.methodLink RX1 89 yX1_insertRound, Cond.instanceMethod yX1_insertRound, Cond.selects RX1 yX1_insertRound yX1_insertRound, Cond.code yX1_insertRound cX1_insertRound 5 none, Cond.fieldLink RX1 18 "CircleCells$Mosaic" "ring" "[I", Cond.methodLink RX1 93 yX1_claimSides, Cond.instanceMethod yX1_claimSides, Cond.selects RX1 yX1_claimSides yX1_claimSides, Cond.code yX1_claimSides cX1_claimSides 4 none, Cond.methodLink RX1 96 yX1_sideCount, Cond.instanceMethod yX1_sideCount, Cond.selects RX1 yX1_sideCount yX1_sideCount, Cond.code yX1_sideCount cX1_sideCount 2 (some .int), Cond.methodLink RX1 100 yX1_siteOf, Cond.instanceMethod yX1_siteOf, Cond.selects RX1 yX1_siteOf yX1_siteOf, Cond.code yX1_siteOf cX1_siteOf 3 (some .int), Cond.methodLink RX1 104 yX1_siteAfter, Cond.instanceMethod yX1_siteAfter, Cond.selects RX1 yX1_siteAfter yX1_siteAfter, Cond.code yX1_siteAfter cX1_siteAfter 3 (some .int), Cond.methodLink RX1 107 yX1_sideKey]
def wsL_beside_r5 : List Cond := [Cond.static yX1_sideKey, Cond.code yX1_sideKey cX1_sideKey 2 (some .int), Cond.methodLink RX1 64 yX1_walkRim, Cond.instanceMethod yX1_walkRim, Cond.selects RX1 yX1_walkRim yX1_walkRim, Cond.code yX1_walkRim cX1_walkRim 4 none, Cond.fieldLink RX1 35 "CircleCells$Mosaic" "rimCount" "I", Cond.fieldLink RX1 32 "CircleCells$Mosaic" "rim" "[I", Cond.methodLink RX1 110 yX1_firstOnRim, Cond.instanceMethod yX1_firstOnRim, Cond.selects RX1 yX1_firstOnRim yX1_firstOnRim, Cond.code yX1_firstOnRim cX1_firstOnRim 2 (some .int), Cond.methodLink RX1 114 yX1_nextOnRim, Cond.instanceMethod yX1_nextOnRim, Cond.selects RX1 yX1_nextOnRim yX1_nextOnRim, Cond.code yX1_nextOnRim cX1_nextOnRim 3 (some .int), Cond.methodLink RX3 87 yX3_requireCell, Cond.instanceMethod yX3_requireCell, Cond.selects RX3 yX3_requireCell yX3_requireCell, Cond.code yX3_requireCell cX3_requireCell 2 none, Cond.classLink RX3 133 "java/util/NoSuchElementException", Cond.initialized "java/util/NoSuchElementException", Cond.fieldLink RX3 84 "CircleCells$Mosaic" "cellCount" "I", Cond.methodLink RX3 90 yX1_sideCount]
def wsL_beside_r6 : List Cond := [Cond.methodLink RX3 94 yX3_requireIndex, Cond.static yX3_requireIndex, Cond.code yX3_requireIndex cX3_requireIndex 2 none, Cond.classLink RX3 138 "java/lang/IndexOutOfBoundsException", Cond.initialized "java/lang/IndexOutOfBoundsException", Cond.methodLink RX3 100 yX1_across, Cond.instanceMethod yX1_across, Cond.selects RX1 yX1_across yX1_across, Cond.code yX1_across cX1_across 3 (some .int)]
def wsL_beside : List Cond := .codeWith yL_beside cL_beside 5 (some .int) [(0, 10, 13, 31), (0, 10, 17, 33)] :: ((wsL_beside_r1 ++ (wsL_beside_r2 ++ (wsL_beside_r3 ++ (wsL_beside_r4 ++ (wsL_beside_r5 ++ wsL_beside_r6))))) ++ wsX30 ++ wsX10 ++ wsX20 ++ wsX00 ++ (vx_atS RX3 137 "java/util/NoSuchElementException" ["java/lang/RuntimeException", "java/lang/Exception"]).filter goodWord ++ (vx_atS RX3 142 "java/lang/IndexOutOfBoundsException" ["java/lang/RuntimeException", "java/lang/Exception"]).filter goodWord)
def wsL_centre_r1 : List Cond := [Cond.classLink RL 31 "java/util/NoSuchElementException", Cond.classLink RL 13 "java/lang/IllegalArgumentException", Cond.methodLink RL 38 yX3_centre, Cond.instanceMethod yX3_centre, Cond.selects RX3 yX3_centre yX3_centre, Cond.initialized RX3, Cond.code yX3_centre cX3_centre 3 (some .long), Cond.classLink RX3 37 "java/lang/IllegalArgumentException", Cond.initialized "java/lang/IllegalArgumentException", Cond.fieldLink RX3 21 "CircleCells" "mosaic" "LCircleCells$Mosaic;", Cond.methodLink RX3 81 yX3_refresh, Cond.instanceMethod yX3_refresh, Cond.selects RX3 yX3_refresh yX3_refresh, Cond.code yX3_refresh cX3_refresh 1 none, Cond.fieldLink RX3 25 "CircleCells" "stale" "Z", Cond.methodLink RX3 143 yX1_build, Cond.instanceMethod yX1_build, Cond.selects RX1 yX1_build yX1_build, Cond.initialized RX1, Cond.code yX1_build cX1_build 3 none, Cond.fieldLink RX1 28 "CircleCells$Mosaic" "cellCount" "I", Cond.fieldLink RX1 25 "CircleCells$Mosaic" "owner" "[I", Cond.fieldLink RX1 38 "CircleCells$Mosaic" "sites" "LCircleCells$Sites;", Cond.fieldLink RX1 48 "CircleCells$Sites" "size" "I"]
def wsL_centre_r2 : List Cond := [Cond.methodLink RX1 42 yJ7_fill_53178, Cond.static yJ7_fill_53178, Cond.initialized RJ7, Cond.code yJ7_fill_53178 cJ7_fill_53178 4 none, Cond.methodLink RX1 53 yX1_layLeftOf, Cond.instanceMethod yX1_layLeftOf, Cond.selects RX1 yX1_layLeftOf yX1_layLeftOf, Cond.code yX1_layLeftOf cX1_layLeftOf 5 (some .boolean), Cond.fieldLink RX1 12 "CircleCells$Mosaic" "circle" "LCircleCells$Circle;", Cond.methodLink RX1 67 yX2_turn_, Cond.instanceMethod yX2_turn_, Cond.selects RX2 yX2_turn_ yX2_turn_, Cond.initialized RX2, Cond.code yX2_turn_ cX2_turn_ 4 (some .int), Cond.fieldLink RX2 9 "CircleCells$Sites" "x" "[I", Cond.fieldLink RX2 15 "CircleCells$Sites" "y" "[I", Cond.methodLink RX2 30 yX2_turn, Cond.instanceMethod yX2_turn, Cond.selects RX2 yX2_turn yX2_turn, Cond.code yX2_turn cX2_turn 5 (some .int), Cond.methodLink RX1 71 yX1_powerOf, Cond.instanceMethod yX1_powerOf, Cond.selects RX1 yX1_powerOf yX1_powerOf, Cond.code yX1_powerOf cX1_powerOf 2 (some .long)]
def wsL_centre_r3 : List Cond := [Cond.fieldLink RX1 79 "CircleCells$Sites" "x" "[I", Cond.fieldLink RX1 82 "CircleCells$Sites" "y" "[I", Cond.methodLink RX1 85 yX0_power, Cond.instanceMethod yX0_power, Cond.selects RX0 yX0_power yX0_power, Cond.initialized RX0, Cond.code yX0_power cX0_power 7 (some .long), Cond.fieldLink RX0 13 "CircleCells$Circle" "fromX" "I", Cond.fieldLink RX0 22 "CircleCells$Circle" "fromY" "I", Cond.fieldLink RX0 34 "CircleCells$Circle" "span" "J", Cond.constantLong RX0 32 (2), Cond.fieldLink RX0 25 "CircleCells$Circle" "aimX" "J", Cond.fieldLink RX0 29 "CircleCells$Circle" "aimY" "J", Cond.methodLink RX1 75 yX0_layThrough, Cond.instanceMethod yX0_layThrough, Cond.selects RX0 yX0_layThrough yX0_layThrough, Cond.code yX0_layThrough cX0_layThrough 17 none, Cond.fieldLink RX0 7 "CircleCells$Sites" "x" "[I", Cond.fieldLink RX0 19 "CircleCells$Sites" "y" "[I", Cond.methodLink RX1 57 yX1_beginsCell, Cond.instanceMethod yX1_beginsCell, Cond.selects RX1 yX1_beginsCell yX1_beginsCell, Cond.code yX1_beginsCell cX1_beginsCell 7 (some .boolean), Cond.methodLink RX1 60 yX1_addCell]
def wsL_centre_r4 : List Cond := [Cond.instanceMethod yX1_addCell, Cond.selects RX1 yX1_addCell yX1_addCell, Cond.code yX1_addCell cX1_addCell 5 none, Cond.fieldLink RX1 22 "CircleCells$Mosaic" "start" "[I", Cond.methodLink RX1 89 yX1_insertRound, Cond.instanceMethod yX1_insertRound, Cond.selects RX1 yX1_insertRound yX1_insertRound, Cond.code yX1_insertRound cX1_insertRound 5 none, Cond.fieldLink RX1 18 "CircleCells$Mosaic" "ring" "[I", Cond.methodLink RX1 93 yX1_claimSides, Cond.instanceMethod yX1_claimSides, Cond.selects RX1 yX1_claimSides yX1_claimSides, Cond.code yX1_claimSides cX1_claimSides 4 none, Cond.methodLink RX1 96 yX1_sideCount, Cond.instanceMethod yX1_sideCount, Cond.selects RX1 yX1_sideCount yX1_sideCount, Cond.code yX1_sideCount cX1_sideCount 2 (some .int), Cond.methodLink RX1 100 yX1_siteOf, Cond.instanceMethod yX1_siteOf, Cond.selects RX1 yX1_siteOf yX1_siteOf, Cond.code yX1_siteOf cX1_siteOf 3 (some .int), Cond.methodLink RX1 104 yX1_siteAfter, Cond.instanceMethod yX1_siteAfter, Cond.selects RX1 yX1_siteAfter yX1_siteAfter]
def wsL_centre_r5 : List Cond := [Cond.code yX1_siteAfter cX1_siteAfter 3 (some .int), Cond.methodLink RX1 107 yX1_sideKey, Cond.static yX1_sideKey, Cond.code yX1_sideKey cX1_sideKey 2 (some .int), Cond.methodLink RX1 64 yX1_walkRim, Cond.instanceMethod yX1_walkRim, Cond.selects RX1 yX1_walkRim yX1_walkRim, Cond.code yX1_walkRim cX1_walkRim 4 none, Cond.fieldLink RX1 35 "CircleCells$Mosaic" "rimCount" "I", Cond.fieldLink RX1 32 "CircleCells$Mosaic" "rim" "[I", Cond.methodLink RX1 110 yX1_firstOnRim, Cond.instanceMethod yX1_firstOnRim, Cond.selects RX1 yX1_firstOnRim yX1_firstOnRim, Cond.code yX1_firstOnRim cX1_firstOnRim 2 (some .int), Cond.methodLink RX1 114 yX1_nextOnRim, Cond.instanceMethod yX1_nextOnRim, Cond.selects RX1 yX1_nextOnRim yX1_nextOnRim, Cond.code yX1_nextOnRim cX1_nextOnRim 3 (some .int), Cond.methodLink RX3 87 yX3_requireCell, Cond.instanceMethod yX3_requireCell, Cond.selects RX3 yX3_requireCell yX3_requireCell, Cond.code yX3_requireCell cX3_requireCell 2 none, Cond.classLink RX3 133 "java/util/NoSuchElementException", Cond.initialized "java/util/NoSuchElementException"]
def wsL_centre_r6 : List Cond := [Cond.fieldLink RX3 84 "CircleCells$Mosaic" "cellCount" "I", Cond.methodLink RX3 105 yX1_circleOf, Cond.instanceMethod yX1_circleOf, Cond.selects RX1 yX1_circleOf yX1_circleOf, Cond.code yX1_circleOf cX1_circleOf 2 (some (.object "CircleCells$Circle")), Cond.methodLink RX3 109 yX0_middle, Cond.instanceMethod yX0_middle, Cond.selects RX0 yX0_middle yX0_middle, Cond.code yX0_middle cX0_middle 10 (some .long), Cond.methodLink RX0 37 Lib.MathLoose.abs_long.x, Cond.static Lib.MathLoose.abs_long.x, Cond.initialized "java/lang/Math", Cond.code Lib.MathLoose.abs_long.x Lib.MathLoose.abs_long.code 2 (some .long), Cond.methodLink RX0 43 yX0_commonDivisor, Cond.static yX0_commonDivisor, Cond.code yX0_commonDivisor cX0_commonDivisor 7 (some .long)]
def wsL_centre : List Cond := .codeWith yL_centre cL_centre 5 (some .int) [(0, 9, 12, 31), (0, 9, 16, 13)] :: ((wsL_centre_r1 ++ (wsL_centre_r2 ++ (wsL_centre_r3 ++ (wsL_centre_r4 ++ (wsL_centre_r5 ++ wsL_centre_r6))))) ++ wsX30 ++ wsX10 ++ wsX20 ++ wsX00 ++ (vx_atS RX3 41 "java/lang/IllegalArgumentException" ["java/lang/RuntimeException", "java/lang/Exception"]).filter goodWord ++ (vx_atS RX3 137 "java/util/NoSuchElementException" ["java/lang/RuntimeException", "java/lang/Exception"]).filter goodWord)
def wsL_hull_r1 : List Cond := [Cond.classLink RL 33 "java/lang/IndexOutOfBoundsException", Cond.methodLink RL 42 yX3_hull, Cond.instanceMethod yX3_hull, Cond.selects RX3 yX3_hull yX3_hull, Cond.initialized RX3, Cond.code yX3_hull cX3_hull 2 (some .int), Cond.fieldLink RX3 21 "CircleCells" "mosaic" "LCircleCells$Mosaic;", Cond.fieldLink RX3 115 "CircleCells$Mosaic" "rimCount" "I", Cond.fieldLink RX3 118 "CircleCells$Mosaic" "rim" "[I", Cond.methodLink RX3 81 yX3_refresh, Cond.instanceMethod yX3_refresh, Cond.selects RX3 yX3_refresh yX3_refresh, Cond.code yX3_refresh cX3_refresh 1 none, Cond.fieldLink RX3 25 "CircleCells" "stale" "Z", Cond.methodLink RX3 143 yX1_build, Cond.instanceMethod yX1_build, Cond.selects RX1 yX1_build yX1_build, Cond.initialized RX1, Cond.code yX1_build cX1_build 3 none, Cond.fieldLink RX1 28 "CircleCells$Mosaic" "cellCount" "I", Cond.fieldLink RX1 25 "CircleCells$Mosaic" "owner" "[I", Cond.fieldLink RX1 38 "CircleCells$Mosaic" "sites" "LCircleCells$Sites;", Cond.fieldLink RX1 48 "CircleCells$Sites" "size" "I", Cond.methodLink RX1 42 yJ7_fill_53178]
def wsL_hull_r2 : List Cond := [Cond.static yJ7_fill_53178, Cond.initialized RJ7, Cond.code yJ7_fill_53178 cJ7_fill_53178 4 none, Cond.methodLink RX1 53 yX1_layLeftOf, Cond.instanceMethod yX1_layLeftOf, Cond.selects RX1 yX1_layLeftOf yX1_layLeftOf, Cond.code yX1_layLeftOf cX1_layLeftOf 5 (some .boolean), Cond.fieldLink RX1 12 "CircleCells$Mosaic" "circle" "LCircleCells$Circle;", Cond.methodLink RX1 67 yX2_turn_, Cond.instanceMethod yX2_turn_, Cond.selects RX2 yX2_turn_ yX2_turn_, Cond.initialized RX2, Cond.code yX2_turn_ cX2_turn_ 4 (some .int), Cond.fieldLink RX2 9 "CircleCells$Sites" "x" "[I", Cond.fieldLink RX2 15 "CircleCells$Sites" "y" "[I", Cond.methodLink RX2 30 yX2_turn, Cond.instanceMethod yX2_turn, Cond.selects RX2 yX2_turn yX2_turn, Cond.code yX2_turn cX2_turn 5 (some .int), Cond.methodLink RX1 71 yX1_powerOf, Cond.instanceMethod yX1_powerOf, Cond.selects RX1 yX1_powerOf yX1_powerOf, Cond.code yX1_powerOf cX1_powerOf 2 (some .long), Cond.fieldLink RX1 79 "CircleCells$Sites" "x" "[I"]
def wsL_hull_r3 : List Cond := [Cond.fieldLink RX1 82 "CircleCells$Sites" "y" "[I", Cond.methodLink RX1 85 yX0_power, Cond.instanceMethod yX0_power, Cond.selects RX0 yX0_power yX0_power, Cond.initialized RX0, Cond.code yX0_power cX0_power 7 (some .long), Cond.fieldLink RX0 13 "CircleCells$Circle" "fromX" "I", Cond.fieldLink RX0 22 "CircleCells$Circle" "fromY" "I", Cond.fieldLink RX0 34 "CircleCells$Circle" "span" "J", Cond.constantLong RX0 32 (2), Cond.fieldLink RX0 25 "CircleCells$Circle" "aimX" "J", Cond.fieldLink RX0 29 "CircleCells$Circle" "aimY" "J", Cond.methodLink RX1 75 yX0_layThrough, Cond.instanceMethod yX0_layThrough, Cond.selects RX0 yX0_layThrough yX0_layThrough, Cond.code yX0_layThrough cX0_layThrough 17 none, Cond.fieldLink RX0 7 "CircleCells$Sites" "x" "[I", Cond.fieldLink RX0 19 "CircleCells$Sites" "y" "[I", Cond.methodLink RX1 57 yX1_beginsCell, Cond.instanceMethod yX1_beginsCell, Cond.selects RX1 yX1_beginsCell yX1_beginsCell, Cond.code yX1_beginsCell cX1_beginsCell 7 (some .boolean), Cond.methodLink RX1 60 yX1_addCell, Cond.instanceMethod yX1_addCell]
def wsL_hull_r4 : List Cond := [Cond.selects RX1 yX1_addCell yX1_addCell, Cond.code yX1_addCell cX1_addCell 5 none, Cond.fieldLink RX1 22 "CircleCells$Mosaic" "start" "[I", Cond.methodLink RX1 89 yX1_insertRound, Cond.instanceMethod yX1_insertRound, Cond.selects RX1 yX1_insertRound yX1_insertRound, Cond.code yX1_insertRound cX1_insertRound 5 none, Cond.fieldLink RX1 18 "CircleCells$Mosaic" "ring" "[I", Cond.methodLink RX1 93 yX1_claimSides, Cond.instanceMethod yX1_claimSides, Cond.selects RX1 yX1_claimSides yX1_claimSides, Cond.code yX1_claimSides cX1_claimSides 4 none, Cond.methodLink RX1 96 yX1_sideCount, Cond.instanceMethod yX1_sideCount, Cond.selects RX1 yX1_sideCount yX1_sideCount, Cond.code yX1_sideCount cX1_sideCount 2 (some .int), Cond.methodLink RX1 100 yX1_siteOf, Cond.instanceMethod yX1_siteOf, Cond.selects RX1 yX1_siteOf yX1_siteOf, Cond.code yX1_siteOf cX1_siteOf 3 (some .int), Cond.methodLink RX1 104 yX1_siteAfter, Cond.instanceMethod yX1_siteAfter, Cond.selects RX1 yX1_siteAfter yX1_siteAfter, Cond.code yX1_siteAfter cX1_siteAfter 3 (some .int)]
def wsL_hull_r5 : List Cond := [Cond.methodLink RX1 107 yX1_sideKey, Cond.static yX1_sideKey, Cond.code yX1_sideKey cX1_sideKey 2 (some .int), Cond.methodLink RX1 64 yX1_walkRim, Cond.instanceMethod yX1_walkRim, Cond.selects RX1 yX1_walkRim yX1_walkRim, Cond.code yX1_walkRim cX1_walkRim 4 none, Cond.fieldLink RX1 35 "CircleCells$Mosaic" "rimCount" "I", Cond.fieldLink RX1 32 "CircleCells$Mosaic" "rim" "[I", Cond.methodLink RX1 110 yX1_firstOnRim, Cond.instanceMethod yX1_firstOnRim, Cond.selects RX1 yX1_firstOnRim yX1_firstOnRim, Cond.code yX1_firstOnRim cX1_firstOnRim 2 (some .int), Cond.methodLink RX1 114 yX1_nextOnRim, Cond.instanceMethod yX1_nextOnRim, Cond.selects RX1 yX1_nextOnRim yX1_nextOnRim, Cond.code yX1_nextOnRim cX1_nextOnRim 3 (some .int), Cond.methodLink RX3 94 yX3_requireIndex, Cond.static yX3_requireIndex, Cond.code yX3_requireIndex cX3_requireIndex 2 none, Cond.classLink RX3 138 "java/lang/IndexOutOfBoundsException", Cond.initialized "java/lang/IndexOutOfBoundsException"]
def wsL_hull : List Cond := .codeWith yL_hull cL_hull 4 (some .int) [(0, 9, 12, 33)] :: ((wsL_hull_r1 ++ (wsL_hull_r2 ++ (wsL_hull_r3 ++ (wsL_hull_r4 ++ wsL_hull_r5)))) ++ wsX30 ++ wsX10 ++ wsX20 ++ wsX00 ++ (vx_atS RX3 142 "java/lang/IndexOutOfBoundsException" ["java/lang/RuntimeException", "java/lang/Exception"]).filter goodWord)
def wsL_around_r1 : List Cond := [Cond.classLink RL 13 "java/lang/IllegalArgumentException", Cond.methodLink RL 46 yX3_around, Cond.instanceMethod yX3_around, Cond.selects RX3 yX3_around yX3_around, Cond.initialized RX3, Cond.code yX3_around cX3_around 3 (some .int), Cond.fieldLink RX3 21 "CircleCells" "mosaic" "LCircleCells$Mosaic;", Cond.methodLink RX3 29 yX3_requirePlace, Cond.static yX3_requirePlace, Cond.code yX3_requirePlace cX3_requirePlace 2 none, Cond.classLink RX3 37 "java/lang/IllegalArgumentException", Cond.initialized "java/lang/IllegalArgumentException", Cond.methodLink RX3 81 yX3_refresh, Cond.instanceMethod yX3_refresh, Cond.selects RX3 yX3_refresh yX3_refresh, Cond.code yX3_refresh cX3_refresh 1 none, Cond.fieldLink RX3 25 "CircleCells" "stale" "Z", Cond.methodLink RX3 143 yX1_build, Cond.instanceMethod yX1_build, Cond.selects RX1 yX1_build yX1_build, Cond.initialized RX1, Cond.code yX1_build cX1_build 3 none, Cond.fieldLink RX1 28 "CircleCells$Mosaic" "cellCount" "I", Cond.fieldLink RX1 25 "CircleCells$Mosaic" "owner" "[I"]
def wsL_around_r2 : List Cond := [Cond.fieldLink RX1 38 "CircleCells$Mosaic" "sites" "LCircleCells$Sites;", Cond.fieldLink RX1 48 "CircleCells$Sites" "size" "I", Cond.methodLink RX1 42 yJ7_fill_53178, Cond.static yJ7_fill_53178, Cond.initialized RJ7, Cond.code yJ7_fill_53178 cJ7_fill_53178 4 none, Cond.methodLink RX1 53 yX1_layLeftOf, Cond.instanceMethod yX1_layLeftOf, Cond.selects RX1 yX1_layLeftOf yX1_layLeftOf, Cond.code yX1_layLeftOf cX1_layLeftOf 5 (some .boolean), Cond.fieldLink RX1 12 "CircleCells$Mosaic" "circle" "LCircleCells$Circle;", Cond.methodLink RX1 67 yX2_turn_, Cond.instanceMethod yX2_turn_, Cond.selects RX2 yX2_turn_ yX2_turn_, Cond.initialized RX2, Cond.code yX2_turn_ cX2_turn_ 4 (some .int), Cond.fieldLink RX2 9 "CircleCells$Sites" "x" "[I", Cond.fieldLink RX2 15 "CircleCells$Sites" "y" "[I", Cond.methodLink RX2 30 yX2_turn, Cond.instanceMethod yX2_turn, Cond.selects RX2 yX2_turn yX2_turn, Cond.code yX2_turn cX2_turn 5 (some .int), Cond.methodLink RX1 71 yX1_powerOf, Cond.instanceMethod yX1_powerOf]
def wsL_around_r3 : List Cond := [Cond.selects RX1 yX1_powerOf yX1_powerOf, Cond.code yX1_powerOf cX1_powerOf 2 (some .long), Cond.fieldLink RX1 79 "CircleCells$Sites" "x" "[I", Cond.fieldLink RX1 82 "CircleCells$Sites" "y" "[I", Cond.methodLink RX1 85 yX0_power, Cond.instanceMethod yX0_power, Cond.selects RX0 yX0_power yX0_power, Cond.initialized RX0, Cond.code yX0_power cX0_power 7 (some .long), Cond.fieldLink RX0 13 "CircleCells$Circle" "fromX" "I", Cond.fieldLink RX0 22 "CircleCells$Circle" "fromY" "I", Cond.fieldLink RX0 34 "CircleCells$Circle" "span" "J", Cond.constantLong RX0 32 (2), Cond.fieldLink RX0 25 "CircleCells$Circle" "aimX" "J", Cond.fieldLink RX0 29 "CircleCells$Circle" "aimY" "J", Cond.methodLink RX1 75 yX0_layThrough, Cond.instanceMethod yX0_layThrough, Cond.selects RX0 yX0_layThrough yX0_layThrough, Cond.code yX0_layThrough cX0_layThrough 17 none, Cond.fieldLink RX0 7 "CircleCells$Sites" "x" "[I", Cond.fieldLink RX0 19 "CircleCells$Sites" "y" "[I", Cond.methodLink RX1 57 yX1_beginsCell, Cond.instanceMethod yX1_beginsCell, Cond.selects RX1 yX1_beginsCell yX1_beginsCell]
def wsL_around_r4 : List Cond := [Cond.code yX1_beginsCell cX1_beginsCell 7 (some .boolean), Cond.methodLink RX1 60 yX1_addCell, Cond.instanceMethod yX1_addCell, Cond.selects RX1 yX1_addCell yX1_addCell, Cond.code yX1_addCell cX1_addCell 5 none, Cond.fieldLink RX1 22 "CircleCells$Mosaic" "start" "[I", Cond.methodLink RX1 89 yX1_insertRound, Cond.instanceMethod yX1_insertRound, Cond.selects RX1 yX1_insertRound yX1_insertRound, Cond.code yX1_insertRound cX1_insertRound 5 none, Cond.fieldLink RX1 18 "CircleCells$Mosaic" "ring" "[I", Cond.methodLink RX1 93 yX1_claimSides, Cond.instanceMethod yX1_claimSides, Cond.selects RX1 yX1_claimSides yX1_claimSides, Cond.code yX1_claimSides cX1_claimSides 4 none, Cond.methodLink RX1 96 yX1_sideCount, Cond.instanceMethod yX1_sideCount, Cond.selects RX1 yX1_sideCount yX1_sideCount, Cond.code yX1_sideCount cX1_sideCount 2 (some .int), Cond.methodLink RX1 100 yX1_siteOf, Cond.instanceMethod yX1_siteOf, Cond.selects RX1 yX1_siteOf yX1_siteOf, Cond.code yX1_siteOf cX1_siteOf 3 (some .int), Cond.methodLink RX1 104 yX1_siteAfter]
def wsL_around_r5 : List Cond := [Cond.instanceMethod yX1_siteAfter, Cond.selects RX1 yX1_siteAfter yX1_siteAfter, Cond.code yX1_siteAfter cX1_siteAfter 3 (some .int), Cond.methodLink RX1 107 yX1_sideKey, Cond.static yX1_sideKey, Cond.code yX1_sideKey cX1_sideKey 2 (some .int), Cond.methodLink RX1 64 yX1_walkRim, Cond.instanceMethod yX1_walkRim, Cond.selects RX1 yX1_walkRim yX1_walkRim, Cond.code yX1_walkRim cX1_walkRim 4 none, Cond.fieldLink RX1 35 "CircleCells$Mosaic" "rimCount" "I", Cond.fieldLink RX1 32 "CircleCells$Mosaic" "rim" "[I", Cond.methodLink RX1 110 yX1_firstOnRim, Cond.instanceMethod yX1_firstOnRim, Cond.selects RX1 yX1_firstOnRim yX1_firstOnRim, Cond.code yX1_firstOnRim cX1_firstOnRim 2 (some .int), Cond.methodLink RX1 114 yX1_nextOnRim, Cond.instanceMethod yX1_nextOnRim, Cond.selects RX1 yX1_nextOnRim yX1_nextOnRim, Cond.code yX1_nextOnRim cX1_nextOnRim 3 (some .int), Cond.methodLink RX3 121 yX1_firstWith, Cond.instanceMethod yX1_firstWith, Cond.selects RX1 yX1_firstWith yX1_firstWith, Cond.code yX1_firstWith cX1_firstWith 4 (some .int)]
def wsL_around_r6 : List Cond := [Cond.methodLink RX1 117 yX1_holds, Cond.instanceMethod yX1_holds, Cond.selects RX1 yX1_holds yX1_holds, Cond.code yX1_holds cX1_holds 6 (some .boolean), Cond.methodLink RX1 121 yX2_turn]
def wsL_around : List Cond := .codeWith yL_around cL_around 5 (some .int) [(0, 10, 13, 13)] :: ((wsL_around_r1 ++ (wsL_around_r2 ++ (wsL_around_r3 ++ (wsL_around_r4 ++ (wsL_around_r5 ++ wsL_around_r6))))) ++ wsX30 ++ wsX10 ++ wsX20 ++ wsX00 ++ (vx_atS RX3 41 "java/lang/IllegalArgumentException" ["java/lang/RuntimeException", "java/lang/Exception"]).filter goodWord)
def wsL_nearest_r1 : List Cond := [Cond.classLink RL 13 "java/lang/IllegalArgumentException", Cond.classLink RL 15 "java/lang/IllegalStateException", Cond.methodLink RL 49 yX3_nearest, Cond.instanceMethod yX3_nearest, Cond.selects RX3 yX3_nearest yX3_nearest, Cond.initialized RX3, Cond.code yX3_nearest cX3_nearest 3 (some .int), Cond.classLink RX3 48 "java/lang/IllegalStateException", Cond.initialized "java/lang/IllegalStateException", Cond.fieldLink RX3 12 "CircleCells" "sites" "LCircleCells$Sites;", Cond.fieldLink RX3 44 "CircleCells$Sites" "size" "I", Cond.methodLink RX3 29 yX3_requirePlace, Cond.static yX3_requirePlace, Cond.code yX3_requirePlace cX3_requirePlace 2 none, Cond.classLink RX3 37 "java/lang/IllegalArgumentException", Cond.initialized "java/lang/IllegalArgumentException", Cond.methodLink RX3 126 yX2_closestTo, Cond.instanceMethod yX2_closestTo, Cond.selects RX2 yX2_closestTo yX2_closestTo, Cond.initialized RX2, Cond.code yX2_closestTo cX2_closestTo 5 (some .int), Cond.fieldLink RX2 18 "CircleCells$Sites" "size" "I", Cond.methodLink RX2 26 yX2_squareTo, Cond.instanceMethod yX2_squareTo]
def wsL_nearest_r2 : List Cond := [Cond.selects RX2 yX2_squareTo yX2_squareTo, Cond.code yX2_squareTo cX2_squareTo 6 (some .int), Cond.fieldLink RX2 9 "CircleCells$Sites" "x" "[I", Cond.fieldLink RX2 15 "CircleCells$Sites" "y" "[I"]
def wsL_nearest : List Cond := .codeWith yL_nearest cL_nearest 5 (some .int) [(0, 10, 13, 13), (0, 10, 17, 15)] :: ((wsL_nearest_r1 ++ wsL_nearest_r2) ++ wsX30 ++ wsX20 ++ (vx_atS RX3 52 "java/lang/IllegalStateException" ["java/lang/RuntimeException", "java/lang/Exception"]).filter goodWord ++ (vx_atS RX3 41 "java/lang/IllegalArgumentException" ["java/lang/RuntimeException", "java/lang/Exception"]).filter goodWord)
def wsL_law0_r1 : List Cond := [Cond.classLink RL 8 RX3, Cond.instantiable RX3 3, Cond.initialized RX3, Cond.classLink RL 53 RX4, Cond.instantiable RX4 11, Cond.initialized RX4, Cond.arrayClass .long, Cond.methodLink RL 52 yX3_init, Cond.instanceMethod yX3_init, Cond.code yX3_init cX3_init 1 none, Cond.methodLink RX3 3 objectInit, Cond.instanceMethod objectInit, Cond.code objectInit ⟨#[0xb1]⟩ 1 none, Cond.classLink RX3 9 RX2, Cond.instantiable RX2 3, Cond.initialized RX2, Cond.fieldLink RX3 12 "CircleCells" "sites" "LCircleCells$Sites;", Cond.classLink RX3 16 RX1, Cond.instantiable RX1 8, Cond.initialized RX1, Cond.fieldLink RX3 21 "CircleCells" "mosaic" "LCircleCells$Mosaic;", Cond.fieldLink RX3 25 "CircleCells" "stale" "Z", Cond.instanceMethod yX2_init, Cond.code yX2_init cX2_init 1 none]
def wsL_law0_r2 : List Cond := [Cond.methodLink RX2 3 objectInit, Cond.arrayClass .int, Cond.fieldLink RX2 9 "CircleCells$Sites" "x" "[I", Cond.fieldLink RX2 15 "CircleCells$Sites" "y" "[I", Cond.fieldLink RX2 18 "CircleCells$Sites" "size" "I", Cond.methodLink RX3 18 yX1_init, Cond.instanceMethod yX1_init, Cond.code yX1_init cX1_init 2 none, Cond.methodLink RX1 3 objectInit, Cond.classLink RX1 9 RX0, Cond.instantiable RX0 5, Cond.initialized RX0, Cond.fieldLink RX1 12 "CircleCells$Mosaic" "circle" "LCircleCells$Circle;", Cond.fieldLink RX1 18 "CircleCells$Mosaic" "ring" "[I", Cond.fieldLink RX1 22 "CircleCells$Mosaic" "start" "[I", Cond.fieldLink RX1 25 "CircleCells$Mosaic" "owner" "[I", Cond.fieldLink RX1 28 "CircleCells$Mosaic" "cellCount" "I", Cond.fieldLink RX1 32 "CircleCells$Mosaic" "rim" "[I", Cond.fieldLink RX1 35 "CircleCells$Mosaic" "rimCount" "I", Cond.fieldLink RX1 38 "CircleCells$Mosaic" "sites" "LCircleCells$Sites;", Cond.instanceMethod yX0_init, Cond.code yX0_init cX0_init 1 none, Cond.methodLink RX0 1 objectInit, Cond.methodLink RL 55 yX4_init]
def wsL_law0_r3 : List Cond := [Cond.instanceMethod yX4_init, Cond.code yX4_init cX4_init 1 none, Cond.methodLink RX4 1 objectInit, Cond.fieldLink RX4 7 "CircleCellsModel" "x" "[I", Cond.fieldLink RX4 13 "CircleCellsModel" "y" "[I", Cond.fieldLink RX4 16 "CircleCellsModel" "size" "[I", Cond.fieldLink RX4 19 "CircleCellsModel" "round" "[I", Cond.fieldLink RX4 22 "CircleCellsModel" "order" "[I", Cond.fieldLink RX4 25 "CircleCellsModel" "hull" "[I", Cond.methodLink RL 56 yL_site, Cond.static yL_site, Cond.initialized RL, Cond.codeWith yL_site cL_site 5 (some .int) [(0, 10, 13, 13), (0, 10, 17, 15)], Cond.classLink RL 13 "java/lang/IllegalArgumentException", Cond.classLink RL 15 "java/lang/IllegalStateException", Cond.methodLink RL 7 yX3_site, Cond.instanceMethod yX3_site, Cond.selects RX3 yX3_site yX3_site, Cond.code yX3_site cX3_site 3 (some .int), Cond.classLink RX3 37 "java/lang/IllegalArgumentException", Cond.initialized "java/lang/IllegalArgumentException", Cond.classLink RX3 48 "java/lang/IllegalStateException", Cond.initialized "java/lang/IllegalStateException", Cond.fieldLink RX3 44 "CircleCells$Sites" "size" "I"]
def wsL_law0_r4 : List Cond := [Cond.methodLink RX3 29 yX3_requirePlace, Cond.static yX3_requirePlace, Cond.code yX3_requirePlace cX3_requirePlace 2 none, Cond.methodLink RX3 33 yX2_numberAt, Cond.instanceMethod yX2_numberAt, Cond.selects RX2 yX2_numberAt yX2_numberAt, Cond.code yX2_numberAt cX2_numberAt 4 (some .int), Cond.methodLink RX3 53 yX2_append, Cond.instanceMethod yX2_append, Cond.selects RX2 yX2_append yX2_append, Cond.code yX2_append cX2_append 4 (some .int), Cond.methodLink RX2 22 yX2_put, Cond.instanceMethod yX2_put, Cond.selects RX2 yX2_put yX2_put, Cond.code yX2_put cX2_put 4 none, Cond.methodLink RL 61 yX4_site, Cond.instanceMethod yX4_site, Cond.selects RX4 yX4_site yX4_site, Cond.code yX4_site cX4_site 4 (some .int), Cond.fieldLink RX4 32 "CircleCellsModel" "sites" "I", Cond.fieldLink RX4 47 "CircleCellsModel" "made" "Z", Cond.methodLink RX4 35 yX4_isFar, Cond.static yX4_isFar, Cond.code yX4_isFar cX4_isFar 2 (some .boolean)]
def wsL_law0_r5 : List Cond := [Cond.methodLink RX4 39 yX4_isTaken, Cond.instanceMethod yX4_isTaken, Cond.selects RX4 yX4_isTaken yX4_isTaken, Cond.code yX4_isTaken cX4_isTaken 6 (some .boolean), Cond.methodLink RX4 43 yX4_throwing, Cond.instanceMethod yX4_throwing, Cond.selects RX4 yX4_throwing yX4_throwing, Cond.code yX4_throwing cX4_throwing 3 (some .boolean), Cond.fieldLink RX4 28 "CircleCellsModel" "thrown" "I", Cond.methodLink RL 62 yX4_thrown, Cond.instanceMethod yX4_thrown, Cond.selects RX4 yX4_thrown yX4_thrown, Cond.code yX4_thrown cX4_thrown 1 (some .int), Cond.methodLink RL 66 yL_remove, Cond.static yL_remove, Cond.codeWith yL_remove cL_remove 3 (some .int) [(0, 5, 8, 13)], Cond.methodLink RL 17 yX3_remove, Cond.instanceMethod yX3_remove, Cond.selects RX3 yX3_remove yX3_remove, Cond.code yX3_remove cX3_remove 2 none, Cond.methodLink RX3 56 yX3_requireSite, Cond.instanceMethod yX3_requireSite, Cond.selects RX3 yX3_requireSite yX3_requireSite, Cond.code yX3_requireSite cX3_requireSite 2 none]
def wsL_law0_r6 : List Cond := [Cond.methodLink RX3 60 yX2_drop, Cond.instanceMethod yX2_drop, Cond.selects RX2 yX2_drop yX2_drop, Cond.code yX2_drop cX2_drop 3 none, Cond.methodLink RL 69 yX4_remove, Cond.instanceMethod yX4_remove, Cond.selects RX4 yX4_remove yX4_remove, Cond.code yX4_remove cX4_remove 3 none, Cond.methodLink RX4 51 yX4_out, Cond.static yX4_out, Cond.code yX4_out cX4_out 2 (some .boolean), Cond.methodLink RL 70 yL_move, Cond.static yL_move, Cond.codeWith yL_move cL_move 5 (some .int) [(0, 7, 10, 13)], Cond.methodLink RL 21 yX3_move, Cond.instanceMethod yX3_move, Cond.selects RX3 yX3_move yX3_move, Cond.code yX3_move cX3_move 5 none, Cond.methodLink RX3 65 yX2_put, Cond.methodLink RL 73 yX4_move, Cond.instanceMethod yX4_move, Cond.selects RX4 yX4_move yX4_move, Cond.code yX4_move cX4_move 4 none, Cond.methodLink RL 74 yX3_clear]
def wsL_law0_r7 : List Cond := [Cond.instanceMethod yX3_clear, Cond.selects RX3 yX3_clear yX3_clear, Cond.code yX3_clear cX3_clear 1 none, Cond.methodLink RX3 69 yX2_dropAll, Cond.instanceMethod yX2_dropAll, Cond.selects RX2 yX2_dropAll yX2_dropAll, Cond.code yX2_dropAll cX2_dropAll 1 none, Cond.methodLink RL 77 yX4_clear, Cond.instanceMethod yX4_clear, Cond.selects RX4 yX4_clear yX4_clear, Cond.code yX4_clear cX4_clear 1 none, Cond.methodLink RL 78 yL_where, Cond.static yL_where, Cond.codeWith yL_where cL_where 5 (some .int) [(0, 10, 13, 13)], Cond.methodLink RL 25 yX3_where, Cond.instanceMethod yX3_where, Cond.selects RX3 yX3_where yX3_where, Cond.code yX3_where cX3_where 3 (some .int), Cond.fieldLink RX3 74 "CircleCells$Sites" "x" "[I", Cond.fieldLink RX3 78 "CircleCells$Sites" "y" "[I", Cond.methodLink RL 80 yX4_where, Cond.instanceMethod yX4_where, Cond.selects RX4 yX4_where yX4_where, Cond.code yX4_where cX4_where 3 (some .int)]
def wsL_law0_r8 : List Cond := [Cond.methodLink RL 81 yX3_cells, Cond.instanceMethod yX3_cells, Cond.selects RX3 yX3_cells yX3_cells, Cond.code yX3_cells cX3_cells 1 (some .int), Cond.fieldLink RX3 84 "CircleCells$Mosaic" "cellCount" "I", Cond.methodLink RX3 81 yX3_refresh, Cond.instanceMethod yX3_refresh, Cond.selects RX3 yX3_refresh yX3_refresh, Cond.code yX3_refresh cX3_refresh 1 none, Cond.methodLink RX3 143 yX1_build, Cond.instanceMethod yX1_build, Cond.selects RX1 yX1_build yX1_build, Cond.code yX1_build cX1_build 3 none, Cond.fieldLink RX1 48 "CircleCells$Sites" "size" "I", Cond.methodLink RX1 42 yJ7_fill_53178, Cond.static yJ7_fill_53178, Cond.initialized RJ7, Cond.code yJ7_fill_53178 cJ7_fill_53178 4 none, Cond.methodLink RX1 53 yX1_layLeftOf, Cond.instanceMethod yX1_layLeftOf, Cond.selects RX1 yX1_layLeftOf yX1_layLeftOf, Cond.code yX1_layLeftOf cX1_layLeftOf 5 (some .boolean), Cond.methodLink RX1 67 yX2_turn_, Cond.instanceMethod yX2_turn_]
def wsL_law0_r9 : List Cond := [Cond.selects RX2 yX2_turn_ yX2_turn_, Cond.code yX2_turn_ cX2_turn_ 4 (some .int), Cond.methodLink RX2 30 yX2_turn, Cond.instanceMethod yX2_turn, Cond.selects RX2 yX2_turn yX2_turn, Cond.code yX2_turn cX2_turn 5 (some .int), Cond.methodLink RX1 71 yX1_powerOf, Cond.instanceMethod yX1_powerOf, Cond.selects RX1 yX1_powerOf yX1_powerOf, Cond.code yX1_powerOf cX1_powerOf 2 (some .long), Cond.fieldLink RX1 79 "CircleCells$Sites" "x" "[I", Cond.fieldLink RX1 82 "CircleCells$Sites" "y" "[I", Cond.methodLink RX1 85 yX0_power, Cond.instanceMethod yX0_power, Cond.selects RX0 yX0_power yX0_power, Cond.code yX0_power cX0_power 7 (some .long), Cond.fieldLink RX0 13 "CircleCells$Circle" "fromX" "I", Cond.fieldLink RX0 22 "CircleCells$Circle" "fromY" "I", Cond.fieldLink RX0 34 "CircleCells$Circle" "span" "J", Cond.constantLong RX0 32 (2), Cond.fieldLink RX0 25 "CircleCells$Circle" "aimX" "J", Cond.fieldLink RX0 29 "CircleCells$Circle" "aimY" "J", Cond.methodLink RX1 75 yX0_layThrough, Cond.instanceMethod yX0_layThrough]
def wsL_law0_r10 : List Cond := [Cond.selects RX0 yX0_layThrough yX0_layThrough, Cond.code yX0_layThrough cX0_layThrough 17 none, Cond.fieldLink RX0 7 "CircleCells$Sites" "x" "[I", Cond.fieldLink RX0 19 "CircleCells$Sites" "y" "[I", Cond.methodLink RX1 57 yX1_beginsCell, Cond.instanceMethod yX1_beginsCell, Cond.selects RX1 yX1_beginsCell yX1_beginsCell, Cond.code yX1_beginsCell cX1_beginsCell 7 (some .boolean), Cond.methodLink RX1 60 yX1_addCell, Cond.instanceMethod yX1_addCell, Cond.selects RX1 yX1_addCell yX1_addCell, Cond.code yX1_addCell cX1_addCell 5 none, Cond.methodLink RX1 89 yX1_insertRound, Cond.instanceMethod yX1_insertRound, Cond.selects RX1 yX1_insertRound yX1_insertRound, Cond.code yX1_insertRound cX1_insertRound 5 none, Cond.methodLink RX1 93 yX1_claimSides, Cond.instanceMethod yX1_claimSides, Cond.selects RX1 yX1_claimSides yX1_claimSides, Cond.code yX1_claimSides cX1_claimSides 4 none, Cond.methodLink RX1 96 yX1_sideCount, Cond.instanceMethod yX1_sideCount, Cond.selects RX1 yX1_sideCount yX1_sideCount, Cond.code yX1_sideCount cX1_sideCount 2 (some .int)]
def wsL_law0_r11 : List Cond := [Cond.methodLink RX1 100 yX1_siteOf, Cond.instanceMethod yX1_siteOf, Cond.selects RX1 yX1_siteOf yX1_siteOf, Cond.code yX1_siteOf cX1_siteOf 3 (some .int), Cond.methodLink RX1 104 yX1_siteAfter, Cond.instanceMethod yX1_siteAfter, Cond.selects RX1 yX1_siteAfter yX1_siteAfter, Cond.code yX1_siteAfter cX1_siteAfter 3 (some .int), Cond.methodLink RX1 107 yX1_sideKey, Cond.static yX1_sideKey, Cond.code yX1_sideKey cX1_sideKey 2 (some .int), Cond.methodLink RX1 64 yX1_walkRim, Cond.instanceMethod yX1_walkRim, Cond.selects RX1 yX1_walkRim yX1_walkRim, Cond.code yX1_walkRim cX1_walkRim 4 none, Cond.methodLink RX1 110 yX1_firstOnRim, Cond.instanceMethod yX1_firstOnRim, Cond.selects RX1 yX1_firstOnRim yX1_firstOnRim, Cond.code yX1_firstOnRim cX1_firstOnRim 2 (some .int), Cond.methodLink RX1 114 yX1_nextOnRim, Cond.instanceMethod yX1_nextOnRim, Cond.selects RX1 yX1_nextOnRim yX1_nextOnRim, Cond.code yX1_nextOnRim cX1_nextOnRim 3 (some .int), Cond.methodLink RL 84 yX4_cells]
def wsL_law0_r12 : List Cond := [Cond.instanceMethod yX4_cells, Cond.selects RX4 yX4_cells yX4_cells, Cond.code yX4_cells cX4_cells 1 (some .int), Cond.fieldLink RX4 65 "CircleCellsModel" "cells" "I", Cond.methodLink RX4 99 yX4_make, Cond.instanceMethod yX4_make, Cond.selects RX4 yX4_make yX4_make, Cond.code yX4_make cX4_make 6 none, Cond.fieldLink RX4 72 "CircleCellsModel" "hullSize" "I", Cond.methodLink RX4 62 yX4_turn, Cond.instanceMethod yX4_turn, Cond.selects RX4 yX4_turn yX4_turn, Cond.code yX4_turn cX4_turn 5 (some .long), Cond.methodLink RX4 75 yX4_onCircle, Cond.instanceMethod yX4_onCircle, Cond.selects RX4 yX4_onCircle yX4_onCircle, Cond.code yX4_onCircle cX4_onCircle 8 (some .int), Cond.methodLink RX4 58 yX4_power, Cond.instanceMethod yX4_power, Cond.selects RX4 yX4_power yX4_power, Cond.code yX4_power cX4_power 21 (some .long), Cond.methodLink RX4 54 yX4_square, Cond.instanceMethod yX4_square, Cond.selects RX4 yX4_square yX4_square]
def wsL_law0_r13 : List Cond := [Cond.code yX4_square cX4_square 3 (some .long), Cond.methodLink RX4 79 yX4_add, Cond.instanceMethod yX4_add, Cond.selects RX4 yX4_add yX4_add, Cond.code yX4_add cX4_add 5 none, Cond.methodLink RX4 68 yX4_behind, Cond.instanceMethod yX4_behind, Cond.selects RX4 yX4_behind yX4_behind, Cond.code yX4_behind cX4_behind 6 (some .int), Cond.methodLink RX4 83 yX4_isBefore, Cond.instanceMethod yX4_isBefore, Cond.selects RX4 yX4_isBefore yX4_isBefore, Cond.code yX4_isBefore cX4_isBefore 4 (some .boolean), Cond.methodLink RX4 86 yX4_surround, Cond.instanceMethod yX4_surround, Cond.selects RX4 yX4_surround yX4_surround, Cond.code yX4_surround cX4_surround 3 none, Cond.methodLink RX4 95 yX4_onHull, Cond.instanceMethod yX4_onHull, Cond.selects RX4 yX4_onHull yX4_onHull, Cond.code yX4_onHull cX4_onHull 4 (some .int), Cond.methodLink RX4 89 yX4_after, Cond.instanceMethod yX4_after, Cond.selects RX4 yX4_after yX4_after]
def wsL_law0_r14 : List Cond := [Cond.code yX4_after cX4_after 3 (some .int), Cond.methodLink RX4 92 yX4_withSide, Cond.instanceMethod yX4_withSide, Cond.selects RX4 yX4_withSide yX4_withSide, Cond.code yX4_withSide cX4_withSide 6 (some .int), Cond.methodLink RL 85 yL_cell, Cond.static yL_cell, Cond.codeWith yL_cell cL_cell 5 (some .int) [(0, 10, 13, 31), (0, 10, 17, 33)], Cond.classLink RL 31 "java/util/NoSuchElementException", Cond.classLink RL 33 "java/lang/IndexOutOfBoundsException", Cond.methodLink RL 28 yX3_cell, Cond.instanceMethod yX3_cell, Cond.selects RX3 yX3_cell yX3_cell, Cond.code yX3_cell cX3_cell 4 (some .int), Cond.methodLink RX3 87 yX3_requireCell, Cond.instanceMethod yX3_requireCell, Cond.selects RX3 yX3_requireCell yX3_requireCell, Cond.code yX3_requireCell cX3_requireCell 2 none, Cond.classLink RX3 133 "java/util/NoSuchElementException", Cond.initialized "java/util/NoSuchElementException", Cond.methodLink RX3 90 yX1_sideCount, Cond.methodLink RX3 94 yX3_requireIndex, Cond.static yX3_requireIndex, Cond.code yX3_requireIndex cX3_requireIndex 2 none]
def wsL_law0_r15 : List Cond := [Cond.classLink RX3 138 "java/lang/IndexOutOfBoundsException", Cond.initialized "java/lang/IndexOutOfBoundsException", Cond.methodLink RX3 97 yX1_siteOf, Cond.methodLink RL 87 yX4_cell, Cond.instanceMethod yX4_cell, Cond.selects RX4 yX4_cell yX4_cell, Cond.code yX4_cell cX4_cell 5 (some .int), Cond.methodLink RL 88 yL_beside, Cond.static yL_beside, Cond.codeWith yL_beside cL_beside 5 (some .int) [(0, 10, 13, 31), (0, 10, 17, 33)], Cond.methodLink RL 35 yX3_beside, Cond.instanceMethod yX3_beside, Cond.selects RX3 yX3_beside yX3_beside, Cond.code yX3_beside cX3_beside 3 (some .int), Cond.methodLink RX3 100 yX1_across, Cond.instanceMethod yX1_across, Cond.selects RX1 yX1_across yX1_across, Cond.code yX1_across cX1_across 3 (some .int), Cond.methodLink RL 90 yX4_beside, Cond.instanceMethod yX4_beside, Cond.selects RX4 yX4_beside yX4_beside, Cond.code yX4_beside cX4_beside 5 (some .int), Cond.methodLink RL 91 yL_centre, Cond.static yL_centre]
def wsL_law0_r16 : List Cond := [Cond.codeWith yL_centre cL_centre 5 (some .int) [(0, 9, 12, 31), (0, 9, 16, 13)], Cond.methodLink RL 38 yX3_centre, Cond.instanceMethod yX3_centre, Cond.selects RX3 yX3_centre yX3_centre, Cond.code yX3_centre cX3_centre 3 (some .long), Cond.methodLink RX3 105 yX1_circleOf, Cond.instanceMethod yX1_circleOf, Cond.selects RX1 yX1_circleOf yX1_circleOf, Cond.code yX1_circleOf cX1_circleOf 2 (some (.object "CircleCells$Circle")), Cond.methodLink RX3 109 yX0_middle, Cond.instanceMethod yX0_middle, Cond.selects RX0 yX0_middle yX0_middle, Cond.code yX0_middle cX0_middle 10 (some .long), Cond.methodLink RX0 37 Lib.MathLoose.abs_long.x, Cond.static Lib.MathLoose.abs_long.x, Cond.initialized "java/lang/Math", Cond.code Lib.MathLoose.abs_long.x Lib.MathLoose.abs_long.code 2 (some .long), Cond.methodLink RX0 43 yX0_commonDivisor, Cond.static yX0_commonDivisor, Cond.code yX0_commonDivisor cX0_commonDivisor 7 (some .long), Cond.methodLink RL 93 yX4_centre, Cond.instanceMethod yX4_centre, Cond.selects RX4 yX4_centre yX4_centre, Cond.code yX4_centre cX4_centre 22 (some .long)]
def wsL_law0_r17 : List Cond := [Cond.constantLong RX4 102 (2), Cond.methodLink RX4 104 yX4_divisor, Cond.static yX4_divisor, Cond.code yX4_divisor cX4_divisor 8 (some .long), Cond.methodLink RL 94 yL_hull, Cond.static yL_hull, Cond.codeWith yL_hull cL_hull 4 (some .int) [(0, 9, 12, 33)], Cond.methodLink RL 42 yX3_hull, Cond.instanceMethod yX3_hull, Cond.selects RX3 yX3_hull yX3_hull, Cond.code yX3_hull cX3_hull 2 (some .int), Cond.fieldLink RX3 115 "CircleCells$Mosaic" "rimCount" "I", Cond.fieldLink RX3 118 "CircleCells$Mosaic" "rim" "[I", Cond.methodLink RL 97 yX4_hull, Cond.instanceMethod yX4_hull, Cond.selects RX4 yX4_hull yX4_hull, Cond.code yX4_hull cX4_hull 2 (some .int), Cond.methodLink RL 98 yL_around, Cond.static yL_around, Cond.codeWith yL_around cL_around 5 (some .int) [(0, 10, 13, 13)], Cond.methodLink RL 46 yX3_around, Cond.instanceMethod yX3_around, Cond.selects RX3 yX3_around yX3_around, Cond.code yX3_around cX3_around 3 (some .int)]
def wsL_law0_r18 : List Cond := [Cond.methodLink RX3 121 yX1_firstWith, Cond.instanceMethod yX1_firstWith, Cond.selects RX1 yX1_firstWith yX1_firstWith, Cond.code yX1_firstWith cX1_firstWith 4 (some .int), Cond.methodLink RX1 117 yX1_holds, Cond.instanceMethod yX1_holds, Cond.selects RX1 yX1_holds yX1_holds, Cond.code yX1_holds cX1_holds 6 (some .boolean), Cond.methodLink RX1 121 yX2_turn, Cond.methodLink RL 100 yX4_around, Cond.instanceMethod yX4_around, Cond.selects RX4 yX4_around yX4_around, Cond.code yX4_around cX4_around 7 (some .int), Cond.methodLink RL 101 yL_nearest, Cond.static yL_nearest, Cond.codeWith yL_nearest cL_nearest 5 (some .int) [(0, 10, 13, 13), (0, 10, 17, 15)], Cond.methodLink RL 49 yX3_nearest, Cond.instanceMethod yX3_nearest, Cond.selects RX3 yX3_nearest yX3_nearest, Cond.code yX3_nearest cX3_nearest 3 (some .int), Cond.methodLink RX3 126 yX2_closestTo, Cond.instanceMethod yX2_closestTo, Cond.selects RX2 yX2_closestTo yX2_closestTo, Cond.code yX2_closestTo cX2_closestTo 5 (some .int)]
def wsL_law0_r19 : List Cond := [Cond.methodLink RX2 26 yX2_squareTo, Cond.instanceMethod yX2_squareTo, Cond.selects RX2 yX2_squareTo yX2_squareTo, Cond.code yX2_squareTo cX2_squareTo 6 (some .int), Cond.methodLink RL 103 yX4_nearest, Cond.instanceMethod yX4_nearest, Cond.selects RX4 yX4_nearest yX4_nearest, Cond.code yX4_nearest cX4_nearest 10 (some .int)]
def wsL_law0 : List Cond := (wsL_law0_r1 ++ (wsL_law0_r2 ++ (wsL_law0_r3 ++ (wsL_law0_r4 ++ (wsL_law0_r5 ++ (wsL_law0_r6 ++ (wsL_law0_r7 ++ (wsL_law0_r8 ++ (wsL_law0_r9 ++ (wsL_law0_r10 ++ (wsL_law0_r11 ++ (wsL_law0_r12 ++ (wsL_law0_r13 ++ (wsL_law0_r14 ++ (wsL_law0_r15 ++ (wsL_law0_r16 ++ (wsL_law0_r17 ++ (wsL_law0_r18 ++ wsL_law0_r19)))))))))))))))))) ++ wsX30 ++ wsX40 ++ wsX20 ++ wsX10 ++ wsX00 ++ ([] : List Cond)
def wsL_law : List Cond := wsL_law0 ++ (vx_atS RX3 41 "java/lang/IllegalArgumentException" ["java/lang/RuntimeException", "java/lang/Exception"]).filter goodWord ++ (vx_atS RX3 52 "java/lang/IllegalStateException" ["java/lang/RuntimeException", "java/lang/Exception"]).filter goodWord ++ (vx_atS RX3 137 "java/util/NoSuchElementException" ["java/lang/RuntimeException", "java/lang/Exception"]).filter goodWord ++ (vx_atS RX3 142 "java/lang/IndexOutOfBoundsException" ["java/lang/RuntimeException", "java/lang/Exception"]).filter goodWord
abbrev vwCl : List vw_C := [(RX0, TX0, 5), (RX1, TX1, 8), (RX2, TX2, 3), (RX3, TX3, 3), (RX4, TX4, 11)]
end
section
theorem dX0_init_0 : decode cX0_init 0 = .ok (.aload_n 0, 1) := by decide +kernel
theorem dX0_init_1 : decode cX0_init 1 = .ok (.invokespecial 1, 3) := by decide +kernel
theorem dX0_init_4 : decode cX0_init 4 = .ok (.return_, 1) := by decide +kernel
theorem dX0_layThrough_0 : decode cX0_layThrough 0 = .ok (.aload_n 0, 1) := by decide +kernel
theorem dX0_layThrough_1 : decode cX0_layThrough 1 = .ok (.aload_n 1, 1) := by decide +kernel
theorem dX0_layThrough_2 : decode cX0_layThrough 2 = .ok (.getfield 7, 3) := by decide +kernel
theorem dX0_layThrough_5 : decode cX0_layThrough 5 = .ok (.iload_n 2, 1) := by decide +kernel
theorem dX0_layThrough_6 : decode cX0_layThrough 6 = .ok (.iaload, 1) := by decide +kernel
theorem dX0_layThrough_7 : decode cX0_layThrough 7 = .ok (.putfield 13, 3) := by decide +kernel
theorem dX0_layThrough_10 : decode cX0_layThrough 10 = .ok (.aload_n 0, 1) := by decide +kernel
theorem dX0_layThrough_11 : decode cX0_layThrough 11 = .ok (.aload_n 1, 1) := by decide +kernel
theorem dX0_layThrough_12 : decode cX0_layThrough 12 = .ok (.getfield 19, 3) := by decide +kernel
theorem dX0_layThrough_15 : decode cX0_layThrough 15 = .ok (.iload_n 2, 1) := by decide +kernel
theorem dX0_layThrough_16 : decode cX0_layThrough 16 = .ok (.iaload, 1) := by decide +kernel
theorem dX0_layThrough_17 : decode cX0_layThrough 17 = .ok (.putfield 22, 3) := by decide +kernel
theorem dX0_layThrough_20 : decode cX0_layThrough 20 = .ok (.aload_n 1, 1) := by decide +kernel
theorem dX0_layThrough_21 : decode cX0_layThrough 21 = .ok (.getfield 7, 3) := by decide +kernel
theorem dX0_layThrough_24 : decode cX0_layThrough 24 = .ok (.iload_n 3, 1) := by decide +kernel
theorem dX0_layThrough_25 : decode cX0_layThrough 25 = .ok (.iaload, 1) := by decide +kernel
theorem dX0_layThrough_26 : decode cX0_layThrough 26 = .ok (.aload_n 0, 1) := by decide +kernel
theorem dX0_layThrough_27 : decode cX0_layThrough 27 = .ok (.getfield 13, 3) := by decide +kernel
theorem dX0_layThrough_30 : decode cX0_layThrough 30 = .ok (.isub, 1) := by decide +kernel
theorem dX0_layThrough_31 : decode cX0_layThrough 31 = .ok (.i2l, 1) := by decide +kernel
theorem dX0_layThrough_32 : decode cX0_layThrough 32 = .ok (.lstore 5, 2) := by decide +kernel
theorem dX0_layThrough_34 : decode cX0_layThrough 34 = .ok (.aload_n 1, 1) := by decide +kernel
theorem dX0_layThrough_35 : decode cX0_layThrough 35 = .ok (.getfield 19, 3) := by decide +kernel
theorem dX0_layThrough_38 : decode cX0_layThrough 38 = .ok (.iload_n 3, 1) := by decide +kernel
theorem dX0_layThrough_39 : decode cX0_layThrough 39 = .ok (.iaload, 1) := by decide +kernel
theorem dX0_layThrough_40 : decode cX0_layThrough 40 = .ok (.aload_n 0, 1) := by decide +kernel
theorem dX0_layThrough_41 : decode cX0_layThrough 41 = .ok (.getfield 22, 3) := by decide +kernel
theorem dX0_layThrough_44 : decode cX0_layThrough 44 = .ok (.isub, 1) := by decide +kernel
theorem dX0_layThrough_45 : decode cX0_layThrough 45 = .ok (.i2l, 1) := by decide +kernel
theorem dX0_layThrough_46 : decode cX0_layThrough 46 = .ok (.lstore 7, 2) := by decide +kernel
theorem dX0_layThrough_48 : decode cX0_layThrough 48 = .ok (.aload_n 1, 1) := by decide +kernel
theorem dX0_layThrough_49 : decode cX0_layThrough 49 = .ok (.getfield 7, 3) := by decide +kernel
theorem dX0_layThrough_52 : decode cX0_layThrough 52 = .ok (.iload 4, 2) := by decide +kernel
theorem dX0_layThrough_54 : decode cX0_layThrough 54 = .ok (.iaload, 1) := by decide +kernel
theorem dX0_layThrough_55 : decode cX0_layThrough 55 = .ok (.aload_n 0, 1) := by decide +kernel
theorem dX0_layThrough_56 : decode cX0_layThrough 56 = .ok (.getfield 13, 3) := by decide +kernel
theorem dX0_layThrough_59 : decode cX0_layThrough 59 = .ok (.isub, 1) := by decide +kernel
theorem dX0_layThrough_60 : decode cX0_layThrough 60 = .ok (.i2l, 1) := by decide +kernel
theorem dX0_layThrough_61 : decode cX0_layThrough 61 = .ok (.lstore 9, 2) := by decide +kernel
theorem dX0_layThrough_63 : decode cX0_layThrough 63 = .ok (.aload_n 1, 1) := by decide +kernel
theorem dX0_layThrough_64 : decode cX0_layThrough 64 = .ok (.getfield 19, 3) := by decide +kernel
theorem dX0_layThrough_67 : decode cX0_layThrough 67 = .ok (.iload 4, 2) := by decide +kernel
theorem dX0_layThrough_69 : decode cX0_layThrough 69 = .ok (.iaload, 1) := by decide +kernel
theorem dX0_layThrough_70 : decode cX0_layThrough 70 = .ok (.aload_n 0, 1) := by decide +kernel
theorem dX0_layThrough_71 : decode cX0_layThrough 71 = .ok (.getfield 22, 3) := by decide +kernel
theorem dX0_layThrough_74 : decode cX0_layThrough 74 = .ok (.isub, 1) := by decide +kernel
theorem dX0_layThrough_75 : decode cX0_layThrough 75 = .ok (.i2l, 1) := by decide +kernel
theorem dX0_layThrough_76 : decode cX0_layThrough 76 = .ok (.lstore 11, 2) := by decide +kernel
theorem dX0_layThrough_78 : decode cX0_layThrough 78 = .ok (.lload 5, 2) := by decide +kernel
theorem dX0_layThrough_80 : decode cX0_layThrough 80 = .ok (.lload 5, 2) := by decide +kernel
theorem dX0_layThrough_82 : decode cX0_layThrough 82 = .ok (.lmul, 1) := by decide +kernel
theorem dX0_layThrough_83 : decode cX0_layThrough 83 = .ok (.lload 7, 2) := by decide +kernel
theorem dX0_layThrough_85 : decode cX0_layThrough 85 = .ok (.lload 7, 2) := by decide +kernel
theorem dX0_layThrough_87 : decode cX0_layThrough 87 = .ok (.lmul, 1) := by decide +kernel
theorem dX0_layThrough_88 : decode cX0_layThrough 88 = .ok (.ladd, 1) := by decide +kernel
theorem dX0_layThrough_89 : decode cX0_layThrough 89 = .ok (.lstore 13, 2) := by decide +kernel
theorem dX0_layThrough_91 : decode cX0_layThrough 91 = .ok (.lload 9, 2) := by decide +kernel
theorem dX0_layThrough_93 : decode cX0_layThrough 93 = .ok (.lload 9, 2) := by decide +kernel
theorem dX0_layThrough_95 : decode cX0_layThrough 95 = .ok (.lmul, 1) := by decide +kernel
theorem dX0_layThrough_96 : decode cX0_layThrough 96 = .ok (.lload 11, 2) := by decide +kernel
theorem dX0_layThrough_98 : decode cX0_layThrough 98 = .ok (.lload 11, 2) := by decide +kernel
theorem dX0_layThrough_100 : decode cX0_layThrough 100 = .ok (.lmul, 1) := by decide +kernel
theorem dX0_layThrough_101 : decode cX0_layThrough 101 = .ok (.ladd, 1) := by decide +kernel
theorem dX0_layThrough_102 : decode cX0_layThrough 102 = .ok (.lstore 15, 2) := by decide +kernel
theorem dX0_layThrough_104 : decode cX0_layThrough 104 = .ok (.aload_n 0, 1) := by decide +kernel
theorem dX0_layThrough_105 : decode cX0_layThrough 105 = .ok (.lload 11, 2) := by decide +kernel
theorem dX0_layThrough_107 : decode cX0_layThrough 107 = .ok (.lload 13, 2) := by decide +kernel
theorem dX0_layThrough_109 : decode cX0_layThrough 109 = .ok (.lmul, 1) := by decide +kernel
theorem dX0_layThrough_110 : decode cX0_layThrough 110 = .ok (.lload 7, 2) := by decide +kernel
theorem dX0_layThrough_112 : decode cX0_layThrough 112 = .ok (.lload 15, 2) := by decide +kernel
theorem dX0_layThrough_114 : decode cX0_layThrough 114 = .ok (.lmul, 1) := by decide +kernel
theorem dX0_layThrough_115 : decode cX0_layThrough 115 = .ok (.lsub, 1) := by decide +kernel
theorem dX0_layThrough_116 : decode cX0_layThrough 116 = .ok (.putfield 25, 3) := by decide +kernel
theorem dX0_layThrough_119 : decode cX0_layThrough 119 = .ok (.aload_n 0, 1) := by decide +kernel
theorem dX0_layThrough_120 : decode cX0_layThrough 120 = .ok (.lload 5, 2) := by decide +kernel
theorem dX0_layThrough_122 : decode cX0_layThrough 122 = .ok (.lload 15, 2) := by decide +kernel
theorem dX0_layThrough_124 : decode cX0_layThrough 124 = .ok (.lmul, 1) := by decide +kernel
theorem dX0_layThrough_125 : decode cX0_layThrough 125 = .ok (.lload 9, 2) := by decide +kernel
theorem dX0_layThrough_127 : decode cX0_layThrough 127 = .ok (.lload 13, 2) := by decide +kernel
theorem dX0_layThrough_129 : decode cX0_layThrough 129 = .ok (.lmul, 1) := by decide +kernel
theorem dX0_layThrough_130 : decode cX0_layThrough 130 = .ok (.lsub, 1) := by decide +kernel
theorem dX0_layThrough_131 : decode cX0_layThrough 131 = .ok (.putfield 29, 3) := by decide +kernel
theorem dX0_layThrough_134 : decode cX0_layThrough 134 = .ok (.aload_n 0, 1) := by decide +kernel
theorem dX0_layThrough_135 : decode cX0_layThrough 135 = .ok (.ldc2_w 32, 3) := by decide +kernel
theorem dX0_layThrough_138 : decode cX0_layThrough 138 = .ok (.lload 5, 2) := by decide +kernel
theorem dX0_layThrough_140 : decode cX0_layThrough 140 = .ok (.lload 11, 2) := by decide +kernel
theorem dX0_layThrough_142 : decode cX0_layThrough 142 = .ok (.lmul, 1) := by decide +kernel
theorem dX0_layThrough_143 : decode cX0_layThrough 143 = .ok (.lload 7, 2) := by decide +kernel
theorem dX0_layThrough_145 : decode cX0_layThrough 145 = .ok (.lload 9, 2) := by decide +kernel
theorem dX0_layThrough_147 : decode cX0_layThrough 147 = .ok (.lmul, 1) := by decide +kernel
theorem dX0_layThrough_148 : decode cX0_layThrough 148 = .ok (.lsub, 1) := by decide +kernel
theorem dX0_layThrough_149 : decode cX0_layThrough 149 = .ok (.lmul, 1) := by decide +kernel
theorem dX0_layThrough_150 : decode cX0_layThrough 150 = .ok (.putfield 34, 3) := by decide +kernel
theorem dX0_layThrough_153 : decode cX0_layThrough 153 = .ok (.return_, 1) := by decide +kernel
theorem dX0_power_0 : decode cX0_power 0 = .ok (.iload_n 1, 1) := by decide +kernel
theorem dX0_power_1 : decode cX0_power 1 = .ok (.aload_n 0, 1) := by decide +kernel
theorem dX0_power_2 : decode cX0_power 2 = .ok (.getfield 13, 3) := by decide +kernel
theorem dX0_power_5 : decode cX0_power 5 = .ok (.isub, 1) := by decide +kernel
theorem dX0_power_6 : decode cX0_power 6 = .ok (.i2l, 1) := by decide +kernel
theorem dX0_power_7 : decode cX0_power 7 = .ok (.lstore_n 3, 1) := by decide +kernel
theorem dX0_power_8 : decode cX0_power 8 = .ok (.iload_n 2, 1) := by decide +kernel
theorem dX0_power_9 : decode cX0_power 9 = .ok (.aload_n 0, 1) := by decide +kernel
theorem dX0_power_10 : decode cX0_power 10 = .ok (.getfield 22, 3) := by decide +kernel
theorem dX0_power_13 : decode cX0_power 13 = .ok (.isub, 1) := by decide +kernel
theorem dX0_power_14 : decode cX0_power 14 = .ok (.i2l, 1) := by decide +kernel
theorem dX0_power_15 : decode cX0_power 15 = .ok (.lstore 5, 2) := by decide +kernel
theorem dX0_power_17 : decode cX0_power 17 = .ok (.lload_n 3, 1) := by decide +kernel
theorem dX0_power_18 : decode cX0_power 18 = .ok (.lload_n 3, 1) := by decide +kernel
theorem dX0_power_19 : decode cX0_power 19 = .ok (.lmul, 1) := by decide +kernel
theorem dX0_power_20 : decode cX0_power 20 = .ok (.lload 5, 2) := by decide +kernel
theorem dX0_power_22 : decode cX0_power 22 = .ok (.lload 5, 2) := by decide +kernel
theorem dX0_power_24 : decode cX0_power 24 = .ok (.lmul, 1) := by decide +kernel
theorem dX0_power_25 : decode cX0_power 25 = .ok (.ladd, 1) := by decide +kernel
theorem dX0_power_26 : decode cX0_power 26 = .ok (.aload_n 0, 1) := by decide +kernel
theorem dX0_power_27 : decode cX0_power 27 = .ok (.getfield 34, 3) := by decide +kernel
theorem dX0_power_30 : decode cX0_power 30 = .ok (.lmul, 1) := by decide +kernel
theorem dX0_power_31 : decode cX0_power 31 = .ok (.ldc2_w 32, 3) := by decide +kernel
theorem dX0_power_34 : decode cX0_power 34 = .ok (.lload_n 3, 1) := by decide +kernel
theorem dX0_power_35 : decode cX0_power 35 = .ok (.aload_n 0, 1) := by decide +kernel
theorem dX0_power_36 : decode cX0_power 36 = .ok (.getfield 25, 3) := by decide +kernel
theorem dX0_power_39 : decode cX0_power 39 = .ok (.lmul, 1) := by decide +kernel
theorem dX0_power_40 : decode cX0_power 40 = .ok (.lload 5, 2) := by decide +kernel
theorem dX0_power_42 : decode cX0_power 42 = .ok (.aload_n 0, 1) := by decide +kernel
theorem dX0_power_43 : decode cX0_power 43 = .ok (.getfield 29, 3) := by decide +kernel
theorem dX0_power_46 : decode cX0_power 46 = .ok (.lmul, 1) := by decide +kernel
theorem dX0_power_47 : decode cX0_power 47 = .ok (.ladd, 1) := by decide +kernel
theorem dX0_power_48 : decode cX0_power 48 = .ok (.lmul, 1) := by decide +kernel
theorem dX0_power_49 : decode cX0_power 49 = .ok (.lsub, 1) := by decide +kernel
theorem dX0_power_50 : decode cX0_power 50 = .ok (.lreturn, 1) := by decide +kernel
set_option maxRecDepth 20000 in
theorem ggX0_middle_X0_commonDivisor : GoodIn wsX0_middle wsX0_commonDivisor := goodIn_r _ [13] (by decide +kernel) (by decide +kernel)
set_option maxRecDepth 20000 in
theorem gX0_middle_X0_commonDivisor : GoodIn wsX0_middle (va_wsS RX0 43 yX0_commonDivisor wsX0_commonDivisor) := goodIn_app (goodIn_of _ (by decide +kernel)) ggX0_middle_X0_commonDivisor
theorem dX0_middle_0 : decode cX0_middle 0 = .ok (.aload_n 0, 1) := by decide +kernel
theorem dX0_middle_1 : decode cX0_middle 1 = .ok (.getfield 13, 3) := by decide +kernel
theorem dX0_middle_4 : decode cX0_middle 4 = .ok (.i2l, 1) := by decide +kernel
theorem dX0_middle_5 : decode cX0_middle 5 = .ok (.aload_n 0, 1) := by decide +kernel
theorem dX0_middle_6 : decode cX0_middle 6 = .ok (.getfield 34, 3) := by decide +kernel
theorem dX0_middle_9 : decode cX0_middle 9 = .ok (.lmul, 1) := by decide +kernel
theorem dX0_middle_10 : decode cX0_middle 10 = .ok (.aload_n 0, 1) := by decide +kernel
theorem dX0_middle_11 : decode cX0_middle 11 = .ok (.getfield 25, 3) := by decide +kernel
theorem dX0_middle_14 : decode cX0_middle 14 = .ok (.ladd, 1) := by decide +kernel
theorem dX0_middle_15 : decode cX0_middle 15 = .ok (.lstore_n 2, 1) := by decide +kernel
theorem dX0_middle_16 : decode cX0_middle 16 = .ok (.aload_n 0, 1) := by decide +kernel
theorem dX0_middle_17 : decode cX0_middle 17 = .ok (.getfield 22, 3) := by decide +kernel
theorem dX0_middle_20 : decode cX0_middle 20 = .ok (.i2l, 1) := by decide +kernel
theorem dX0_middle_21 : decode cX0_middle 21 = .ok (.aload_n 0, 1) := by decide +kernel
theorem dX0_middle_22 : decode cX0_middle 22 = .ok (.getfield 34, 3) := by decide +kernel
theorem dX0_middle_25 : decode cX0_middle 25 = .ok (.lmul, 1) := by decide +kernel
theorem dX0_middle_26 : decode cX0_middle 26 = .ok (.aload_n 0, 1) := by decide +kernel
theorem dX0_middle_27 : decode cX0_middle 27 = .ok (.getfield 29, 3) := by decide +kernel
theorem dX0_middle_30 : decode cX0_middle 30 = .ok (.ladd, 1) := by decide +kernel
theorem dX0_middle_31 : decode cX0_middle 31 = .ok (.lstore 4, 2) := by decide +kernel
theorem dX0_middle_33 : decode cX0_middle 33 = .ok (.iload_n 1, 1) := by decide +kernel
theorem dX0_middle_34 : decode cX0_middle 34 = .ok (.ifCond .ne 7, 3) := by decide +kernel
theorem dX0_middle_37 : decode cX0_middle 37 = .ok (.lload_n 2, 1) := by decide +kernel
theorem dX0_middle_38 : decode cX0_middle 38 = .ok (.goto 17, 3) := by decide +kernel
theorem dX0_middle_41 : decode cX0_middle 41 = .ok (.iload_n 1, 1) := by decide +kernel
theorem dX0_middle_42 : decode cX0_middle 42 = .ok (.iconst 1, 1) := by decide +kernel
theorem dX0_middle_43 : decode cX0_middle 43 = .ok (.if_icmp .ne 8, 3) := by decide +kernel
theorem dX0_middle_46 : decode cX0_middle 46 = .ok (.lload 4, 2) := by decide +kernel
theorem dX0_middle_48 : decode cX0_middle 48 = .ok (.goto 7, 3) := by decide +kernel
theorem dX0_middle_51 : decode cX0_middle 51 = .ok (.aload_n 0, 1) := by decide +kernel
theorem dX0_middle_52 : decode cX0_middle 52 = .ok (.getfield 34, 3) := by decide +kernel
theorem dX0_middle_55 : decode cX0_middle 55 = .ok (.lstore 6, 2) := by decide +kernel
theorem dX0_middle_57 : decode cX0_middle 57 = .ok (.aload_n 0, 1) := by decide +kernel
theorem dX0_middle_58 : decode cX0_middle 58 = .ok (.getfield 34, 3) := by decide +kernel
theorem dX0_middle_61 : decode cX0_middle 61 = .ok (.lload_n 2, 1) := by decide +kernel
theorem dX0_middle_62 : decode cX0_middle 62 = .ok (.invokestatic 37, 3) := by decide +kernel
theorem dX0_middle_65 : decode cX0_middle 65 = .ok (.lload 4, 2) := by decide +kernel
theorem dX0_middle_67 : decode cX0_middle 67 = .ok (.invokestatic 37, 3) := by decide +kernel
theorem dX0_middle_70 : decode cX0_middle 70 = .ok (.invokestatic 43, 3) := by decide +kernel
theorem dX0_middle_73 : decode cX0_middle 73 = .ok (.invokestatic 43, 3) := by decide +kernel
theorem dX0_middle_76 : decode cX0_middle 76 = .ok (.lstore 8, 2) := by decide +kernel
theorem dX0_middle_78 : decode cX0_middle 78 = .ok (.lload 8, 2) := by decide +kernel
theorem dX0_middle_80 : decode cX0_middle 80 = .ok (.lconst 1, 1) := by decide +kernel
theorem dX0_middle_81 : decode cX0_middle 81 = .ok (.lcmp, 1) := by decide +kernel
theorem dX0_middle_82 : decode cX0_middle 82 = .ok (.ifCond .le 11, 3) := by decide +kernel
theorem dX0_middle_85 : decode cX0_middle 85 = .ok (.lload 6, 2) := by decide +kernel
theorem dX0_middle_87 : decode cX0_middle 87 = .ok (.lload 8, 2) := by decide +kernel
theorem dX0_middle_89 : decode cX0_middle 89 = .ok (.ldiv, 1) := by decide +kernel
theorem dX0_middle_90 : decode cX0_middle 90 = .ok (.goto 5, 3) := by decide +kernel
theorem dX0_middle_93 : decode cX0_middle 93 = .ok (.lload 6, 2) := by decide +kernel
theorem dX0_middle_95 : decode cX0_middle 95 = .ok (.lreturn, 1) := by decide +kernel
theorem dX0_commonDivisor_0 : decode cX0_commonDivisor 0 = .ok (.iconst 0, 1) := by decide +kernel
theorem dX0_commonDivisor_1 : decode cX0_commonDivisor 1 = .ok (.istore 4, 2) := by decide +kernel
theorem dX0_commonDivisor_3 : decode cX0_commonDivisor 3 = .ok (.iload 4, 2) := by decide +kernel
theorem dX0_commonDivisor_5 : decode cX0_commonDivisor 5 = .ok (.sipush 128, 3) := by decide +kernel
theorem dX0_commonDivisor_8 : decode cX0_commonDivisor 8 = .ok (.if_icmp .ge 25, 3) := by decide +kernel
theorem dX0_commonDivisor_11 : decode cX0_commonDivisor 11 = .ok (.lload_n 2, 1) := by decide +kernel
theorem dX0_commonDivisor_12 : decode cX0_commonDivisor 12 = .ok (.lconst 0, 1) := by decide +kernel
theorem dX0_commonDivisor_13 : decode cX0_commonDivisor 13 = .ok (.lcmp, 1) := by decide +kernel
theorem dX0_commonDivisor_14 : decode cX0_commonDivisor 14 = .ok (.ifCond .eq 19, 3) := by decide +kernel
theorem dX0_commonDivisor_17 : decode cX0_commonDivisor 17 = .ok (.lload_n 0, 1) := by decide +kernel
theorem dX0_commonDivisor_18 : decode cX0_commonDivisor 18 = .ok (.lload_n 2, 1) := by decide +kernel
theorem dX0_commonDivisor_19 : decode cX0_commonDivisor 19 = .ok (.lrem, 1) := by decide +kernel
theorem dX0_commonDivisor_20 : decode cX0_commonDivisor 20 = .ok (.lstore 5, 2) := by decide +kernel
theorem dX0_commonDivisor_22 : decode cX0_commonDivisor 22 = .ok (.lload_n 2, 1) := by decide +kernel
theorem dX0_commonDivisor_23 : decode cX0_commonDivisor 23 = .ok (.lstore_n 0, 1) := by decide +kernel
theorem dX0_commonDivisor_24 : decode cX0_commonDivisor 24 = .ok (.lload 5, 2) := by decide +kernel
theorem dX0_commonDivisor_26 : decode cX0_commonDivisor 26 = .ok (.lstore_n 2, 1) := by decide +kernel
theorem dX0_commonDivisor_27 : decode cX0_commonDivisor 27 = .ok (.iinc 4 1, 3) := by decide +kernel
theorem dX0_commonDivisor_30 : decode cX0_commonDivisor 30 = .ok (.goto (-27), 3) := by decide +kernel
theorem dX0_commonDivisor_33 : decode cX0_commonDivisor 33 = .ok (.lload_n 0, 1) := by decide +kernel
theorem dX0_commonDivisor_34 : decode cX0_commonDivisor 34 = .ok (.lreturn, 1) := by decide +kernel
set_option maxRecDepth 20000 in
theorem ggX1_init_X0_init : GoodIn wsX1_init wsX0_init := goodIn_r _ [17, 18, 2, 3] (by decide +kernel) (by decide +kernel)
set_option maxRecDepth 20000 in
theorem gX1_init_X0_init_n11 : GoodIn wsX1_init (wsX0_init) := ggX1_init_X0_init
theorem dX1_init_0 : decode cX1_init 0 = .ok (.aload_n 0, 1) := by decide +kernel
theorem dX1_init_1 : decode cX1_init 1 = .ok (.invokespecial 3, 3) := by decide +kernel
theorem dX1_init_4 : decode cX1_init 4 = .ok (.aload_n 0, 1) := by decide +kernel
theorem dX1_init_5 : decode cX1_init 5 = .ok (.new 9, 3) := by decide +kernel
theorem dX1_init_8 : decode cX1_init 8 = .ok (.dup, 1) := by decide +kernel
theorem dX1_init_9 : decode cX1_init 9 = .ok (.invokespecial 11, 3) := by decide +kernel
theorem dX1_init_12 : decode cX1_init 12 = .ok (.putfield 12, 3) := by decide +kernel
theorem dX1_init_15 : decode cX1_init 15 = .ok (.aload_n 0, 1) := by decide +kernel
theorem dX1_init_16 : decode cX1_init 16 = .ok (.bipush 105, 2) := by decide +kernel
theorem dX1_init_18 : decode cX1_init 18 = .ok (.newarray .int, 2) := by decide +kernel
theorem dX1_init_20 : decode cX1_init 20 = .ok (.putfield 18, 3) := by decide +kernel
theorem dX1_init_23 : decode cX1_init 23 = .ok (.aload_n 0, 1) := by decide +kernel
theorem dX1_init_24 : decode cX1_init 24 = .ok (.bipush 36, 2) := by decide +kernel
theorem dX1_init_26 : decode cX1_init 26 = .ok (.newarray .int, 2) := by decide +kernel
theorem dX1_init_28 : decode cX1_init 28 = .ok (.putfield 22, 3) := by decide +kernel
theorem dX1_init_31 : decode cX1_init 31 = .ok (.aload_n 0, 1) := by decide +kernel
theorem dX1_init_32 : decode cX1_init 32 = .ok (.sipush 400, 3) := by decide +kernel
theorem dX1_init_35 : decode cX1_init 35 = .ok (.newarray .int, 2) := by decide +kernel
theorem dX1_init_37 : decode cX1_init 37 = .ok (.putfield 25, 3) := by decide +kernel
theorem dX1_init_40 : decode cX1_init 40 = .ok (.aload_n 0, 1) := by decide +kernel
theorem dX1_init_41 : decode cX1_init 41 = .ok (.iconst 0, 1) := by decide +kernel
theorem dX1_init_42 : decode cX1_init 42 = .ok (.putfield 28, 3) := by decide +kernel
theorem dX1_init_45 : decode cX1_init 45 = .ok (.aload_n 0, 1) := by decide +kernel
theorem dX1_init_46 : decode cX1_init 46 = .ok (.bipush 20, 2) := by decide +kernel
theorem dX1_init_48 : decode cX1_init 48 = .ok (.newarray .int, 2) := by decide +kernel
theorem dX1_init_50 : decode cX1_init 50 = .ok (.putfield 32, 3) := by decide +kernel
theorem dX1_init_53 : decode cX1_init 53 = .ok (.aload_n 0, 1) := by decide +kernel
theorem dX1_init_54 : decode cX1_init 54 = .ok (.iconst 0, 1) := by decide +kernel
theorem dX1_init_55 : decode cX1_init 55 = .ok (.putfield 35, 3) := by decide +kernel
theorem dX1_init_58 : decode cX1_init 58 = .ok (.aload_n 0, 1) := by decide +kernel
theorem dX1_init_59 : decode cX1_init 59 = .ok (.aload_n 1, 1) := by decide +kernel
theorem dX1_init_60 : decode cX1_init 60 = .ok (.putfield 38, 3) := by decide +kernel
theorem dX1_init_63 : decode cX1_init 63 = .ok (.return_, 1) := by decide +kernel
set_option maxRecDepth 20000 in
theorem ggX1_build_J7_fill_53178 : GoodIn wsX1_build wsJ7_fill_53178 := goodIn_r _ [8] (by decide +kernel) (by decide +kernel)
set_option maxRecDepth 20000 in
theorem gX1_build_J7_fill_53178 : GoodIn wsX1_build (va_wsS RX1 42 yJ7_fill_53178 wsJ7_fill_53178) := goodIn_app (goodIn_of _ (by decide +kernel)) ggX1_build_J7_fill_53178
set_option maxRecDepth 20000 in
theorem ggX1_build_X1_layLeftOf : GoodIn wsX1_build wsX1_layLeftOf := goodIn_r _ [13, 3, 4, 14, 15, 16, 17, 18, 19, 20, 21, 22, 23, 24, 25, 26, 27, 28, 12, 29, 30, 31, 32, 33, 34, 35, 36, 37, 38, 39, 40, 41, 42, 43, 44, 45, 46, 47, 48, 96, 97, 98, 99, 100, 101, 102, 103, 104, 105, 106, 107, 108, 109, 110, 111] (by decide +kernel) (by decide +kernel)
set_option maxRecDepth 20000 in
theorem gX1_build_X1_layLeftOf : GoodIn wsX1_build (wsV RX1 53 RX1 yX1_layLeftOf wsX1_layLeftOf) := goodIn_app (goodIn_of _ (by decide +kernel)) ggX1_build_X1_layLeftOf
set_option maxRecDepth 20000 in
theorem ggX1_build_X1_beginsCell : GoodIn wsX1_build wsX1_beginsCell := goodIn_r _ [52, 3, 4, 26, 27, 28, 12, 29, 14, 30, 31, 32, 33, 34, 35, 36, 37, 38, 39, 40, 41, 42, 15, 16, 17, 18, 19, 20, 21, 22, 23, 24, 25, 96, 97, 98, 99, 100, 101, 102, 103, 104, 105, 106, 107, 108, 109, 110, 111] (by decide +kernel) (by decide +kernel)
set_option maxRecDepth 20000 in
theorem gX1_build_X1_beginsCell : GoodIn wsX1_build (wsV RX1 57 RX1 yX1_beginsCell wsX1_beginsCell) := goodIn_app (goodIn_of _ (by decide +kernel)) ggX1_build_X1_beginsCell
set_option maxRecDepth 20000 in
theorem ggX1_build_X1_addCell : GoodIn wsX1_build wsX1_addCell := goodIn_r _ [56, 1, 57, 3, 4, 26, 27, 28, 12, 29, 14, 30, 31, 32, 33, 34, 35, 36, 37, 38, 39, 40, 41, 42, 58, 59, 60, 61, 62, 15, 16, 17, 18, 19, 20, 21, 22, 23, 24, 25, 63, 64, 65, 66, 2, 67, 68, 69, 70, 71, 72, 73, 74, 75, 76, 77, 78, 79, 80, 81, 96, 97, 98, 99, 100, 101, 102, 103, 104, 105, 106, 107, 108, 109, 110, 111] (by decide +kernel) (by decide +kernel)
set_option maxRecDepth 20000 in
theorem gX1_build_X1_addCell : GoodIn wsX1_build (wsV RX1 60 RX1 yX1_addCell wsX1_addCell) := goodIn_app (goodIn_of _ (by decide +kernel)) ggX1_build_X1_addCell
set_option maxRecDepth 20000 in
theorem ggX1_build_X1_walkRim : GoodIn wsX1_build wsX1_walkRim := goodIn_r _ [85, 86, 87, 88, 89, 90, 12, 91, 3, 4, 92, 93, 94, 95, 2, 79, 80, 81, 96, 97, 98, 99, 100, 101, 102, 103, 104, 105, 106] (by decide +kernel) (by decide +kernel)
set_option maxRecDepth 20000 in
theorem gX1_build_X1_walkRim : GoodIn wsX1_build (wsV RX1 64 RX1 yX1_walkRim wsX1_walkRim) := goodIn_app (goodIn_of _ (by decide +kernel)) ggX1_build_X1_walkRim
theorem dX1_build_0 : decode cX1_build 0 = .ok (.aload_n 0, 1) := by decide +kernel
theorem dX1_build_1 : decode cX1_build 1 = .ok (.iconst 0, 1) := by decide +kernel
theorem dX1_build_2 : decode cX1_build 2 = .ok (.putfield 28, 3) := by decide +kernel
theorem dX1_build_5 : decode cX1_build 5 = .ok (.aload_n 0, 1) := by decide +kernel
theorem dX1_build_6 : decode cX1_build 6 = .ok (.getfield 25, 3) := by decide +kernel
theorem dX1_build_9 : decode cX1_build 9 = .ok (.iconst (-1), 1) := by decide +kernel
theorem dX1_build_10 : decode cX1_build 10 = .ok (.invokestatic 42, 3) := by decide +kernel
theorem dX1_build_13 : decode cX1_build 13 = .ok (.iconst 0, 1) := by decide +kernel
theorem dX1_build_14 : decode cX1_build 14 = .ok (.istore_n 1, 1) := by decide +kernel
theorem dX1_build_15 : decode cX1_build 15 = .ok (.iload_n 1, 1) := by decide +kernel
theorem dX1_build_16 : decode cX1_build 16 = .ok (.aload_n 0, 1) := by decide +kernel
theorem dX1_build_17 : decode cX1_build 17 = .ok (.getfield 38, 3) := by decide +kernel
theorem dX1_build_20 : decode cX1_build 20 = .ok (.getfield 48, 3) := by decide +kernel
theorem dX1_build_23 : decode cX1_build 23 = .ok (.if_icmp .ge 53, 3) := by decide +kernel
theorem dX1_build_26 : decode cX1_build 26 = .ok (.iload_n 1, 1) := by decide +kernel
theorem dX1_build_27 : decode cX1_build 27 = .ok (.iconst 1, 1) := by decide +kernel
theorem dX1_build_28 : decode cX1_build 28 = .ok (.iadd, 1) := by decide +kernel
theorem dX1_build_29 : decode cX1_build 29 = .ok (.istore_n 2, 1) := by decide +kernel
theorem dX1_build_30 : decode cX1_build 30 = .ok (.iload_n 2, 1) := by decide +kernel
theorem dX1_build_31 : decode cX1_build 31 = .ok (.aload_n 0, 1) := by decide +kernel
theorem dX1_build_32 : decode cX1_build 32 = .ok (.getfield 38, 3) := by decide +kernel
theorem dX1_build_35 : decode cX1_build 35 = .ok (.getfield 48, 3) := by decide +kernel
theorem dX1_build_38 : decode cX1_build 38 = .ok (.if_icmp .ge 32, 3) := by decide +kernel
theorem dX1_build_41 : decode cX1_build 41 = .ok (.aload_n 0, 1) := by decide +kernel
theorem dX1_build_42 : decode cX1_build 42 = .ok (.iload_n 1, 1) := by decide +kernel
theorem dX1_build_43 : decode cX1_build 43 = .ok (.iload_n 2, 1) := by decide +kernel
theorem dX1_build_44 : decode cX1_build 44 = .ok (.invokevirtual 53, 3) := by decide +kernel
theorem dX1_build_47 : decode cX1_build 47 = .ok (.ifCond .eq 17, 3) := by decide +kernel
theorem dX1_build_50 : decode cX1_build 50 = .ok (.aload_n 0, 1) := by decide +kernel
theorem dX1_build_51 : decode cX1_build 51 = .ok (.iload_n 1, 1) := by decide +kernel
theorem dX1_build_52 : decode cX1_build 52 = .ok (.iload_n 2, 1) := by decide +kernel
theorem dX1_build_53 : decode cX1_build 53 = .ok (.invokevirtual 57, 3) := by decide +kernel
theorem dX1_build_56 : decode cX1_build 56 = .ok (.ifCond .eq 8, 3) := by decide +kernel
theorem dX1_build_59 : decode cX1_build 59 = .ok (.aload_n 0, 1) := by decide +kernel
theorem dX1_build_60 : decode cX1_build 60 = .ok (.iload_n 1, 1) := by decide +kernel
theorem dX1_build_61 : decode cX1_build 61 = .ok (.invokevirtual 60, 3) := by decide +kernel
theorem dX1_build_64 : decode cX1_build 64 = .ok (.iinc 2 1, 3) := by decide +kernel
theorem dX1_build_67 : decode cX1_build 67 = .ok (.goto (-37), 3) := by decide +kernel
theorem dX1_build_70 : decode cX1_build 70 = .ok (.iinc 1 1, 3) := by decide +kernel
theorem dX1_build_73 : decode cX1_build 73 = .ok (.goto (-58), 3) := by decide +kernel
theorem dX1_build_76 : decode cX1_build 76 = .ok (.aload_n 0, 1) := by decide +kernel
theorem dX1_build_77 : decode cX1_build 77 = .ok (.invokevirtual 64, 3) := by decide +kernel
theorem dX1_build_80 : decode cX1_build 80 = .ok (.return_, 1) := by decide +kernel
set_option maxRecDepth 20000 in
theorem ggX1_layLeftOf_X2_turn_ : GoodIn wsX1_layLeftOf wsX2_turn_ := goodIn_r _ [8, 9, 10, 11, 12, 13, 7, 14, 47, 48, 49] (by decide +kernel) (by decide +kernel)
set_option maxRecDepth 20000 in
theorem gX1_layLeftOf_X2_turn_ : GoodIn wsX1_layLeftOf (wsV RX1 67 RX2 yX2_turn_ wsX2_turn_) := goodIn_app (goodIn_of _ (by decide +kernel)) ggX1_layLeftOf_X2_turn_
set_option maxRecDepth 20000 in
theorem ggX1_layLeftOf_X1_powerOf : GoodIn wsX1_layLeftOf wsX1_powerOf := goodIn_r _ [19, 3, 1, 20, 21, 22, 23, 24, 25, 26, 27, 28, 29, 30, 31, 32, 39, 40, 41, 42, 43, 44, 45, 46, 47, 48, 49, 50, 51, 52, 53, 54] (by decide +kernel) (by decide +kernel)
set_option maxRecDepth 20000 in
theorem gX1_layLeftOf_X1_powerOf : GoodIn wsX1_layLeftOf (wsV RX1 71 RX1 yX1_powerOf wsX1_powerOf) := goodIn_app (goodIn_of _ (by decide +kernel)) ggX1_layLeftOf_X1_powerOf
set_option maxRecDepth 20000 in
theorem ggX1_layLeftOf_X0_layThrough : GoodIn wsX1_layLeftOf wsX0_layThrough := goodIn_r _ [36, 37, 27, 38, 28, 31, 32, 30, 29, 47, 48, 49, 50, 51, 52, 53, 54] (by decide +kernel) (by decide +kernel)
set_option maxRecDepth 20000 in
theorem gX1_layLeftOf_X0_layThrough : GoodIn wsX1_layLeftOf (wsV RX1 75 RX0 yX0_layThrough wsX0_layThrough) := goodIn_app (goodIn_of _ (by decide +kernel)) ggX1_layLeftOf_X0_layThrough
theorem dX1_layLeftOf_0 : decode cX1_layLeftOf 0 = .ok (.iconst 0, 1) := by decide +kernel
theorem dX1_layLeftOf_1 : decode cX1_layLeftOf 1 = .ok (.istore_n 3, 1) := by decide +kernel
theorem dX1_layLeftOf_2 : decode cX1_layLeftOf 2 = .ok (.iconst 0, 1) := by decide +kernel
theorem dX1_layLeftOf_3 : decode cX1_layLeftOf 3 = .ok (.istore 4, 2) := by decide +kernel
theorem dX1_layLeftOf_5 : decode cX1_layLeftOf 5 = .ok (.iload 4, 2) := by decide +kernel
theorem dX1_layLeftOf_7 : decode cX1_layLeftOf 7 = .ok (.aload_n 0, 1) := by decide +kernel
theorem dX1_layLeftOf_8 : decode cX1_layLeftOf 8 = .ok (.getfield 38, 3) := by decide +kernel
theorem dX1_layLeftOf_11 : decode cX1_layLeftOf 11 = .ok (.getfield 48, 3) := by decide +kernel
theorem dX1_layLeftOf_14 : decode cX1_layLeftOf 14 = .ok (.if_icmp .ge 55, 3) := by decide +kernel
theorem dX1_layLeftOf_17 : decode cX1_layLeftOf 17 = .ok (.aload_n 0, 1) := by decide +kernel
theorem dX1_layLeftOf_18 : decode cX1_layLeftOf 18 = .ok (.getfield 38, 3) := by decide +kernel
theorem dX1_layLeftOf_21 : decode cX1_layLeftOf 21 = .ok (.iload_n 1, 1) := by decide +kernel
theorem dX1_layLeftOf_22 : decode cX1_layLeftOf 22 = .ok (.iload_n 2, 1) := by decide +kernel
theorem dX1_layLeftOf_23 : decode cX1_layLeftOf 23 = .ok (.iload 4, 2) := by decide +kernel
theorem dX1_layLeftOf_25 : decode cX1_layLeftOf 25 = .ok (.invokevirtual 67, 3) := by decide +kernel
theorem dX1_layLeftOf_28 : decode cX1_layLeftOf 28 = .ok (.ifCond .le 35, 3) := by decide +kernel
theorem dX1_layLeftOf_31 : decode cX1_layLeftOf 31 = .ok (.iload_n 3, 1) := by decide +kernel
theorem dX1_layLeftOf_32 : decode cX1_layLeftOf 32 = .ok (.ifCond .eq 14, 3) := by decide +kernel
theorem dX1_layLeftOf_35 : decode cX1_layLeftOf 35 = .ok (.aload_n 0, 1) := by decide +kernel
theorem dX1_layLeftOf_36 : decode cX1_layLeftOf 36 = .ok (.iload 4, 2) := by decide +kernel
theorem dX1_layLeftOf_38 : decode cX1_layLeftOf 38 = .ok (.invokevirtual 71, 3) := by decide +kernel
theorem dX1_layLeftOf_41 : decode cX1_layLeftOf 41 = .ok (.lconst 0, 1) := by decide +kernel
theorem dX1_layLeftOf_42 : decode cX1_layLeftOf 42 = .ok (.lcmp, 1) := by decide +kernel
theorem dX1_layLeftOf_43 : decode cX1_layLeftOf 43 = .ok (.ifCond .ge 20, 3) := by decide +kernel
theorem dX1_layLeftOf_46 : decode cX1_layLeftOf 46 = .ok (.aload_n 0, 1) := by decide +kernel
theorem dX1_layLeftOf_47 : decode cX1_layLeftOf 47 = .ok (.getfield 12, 3) := by decide +kernel
theorem dX1_layLeftOf_50 : decode cX1_layLeftOf 50 = .ok (.aload_n 0, 1) := by decide +kernel
theorem dX1_layLeftOf_51 : decode cX1_layLeftOf 51 = .ok (.getfield 38, 3) := by decide +kernel
theorem dX1_layLeftOf_54 : decode cX1_layLeftOf 54 = .ok (.iload_n 1, 1) := by decide +kernel
theorem dX1_layLeftOf_55 : decode cX1_layLeftOf 55 = .ok (.iload_n 2, 1) := by decide +kernel
theorem dX1_layLeftOf_56 : decode cX1_layLeftOf 56 = .ok (.iload 4, 2) := by decide +kernel
theorem dX1_layLeftOf_58 : decode cX1_layLeftOf 58 = .ok (.invokevirtual 75, 3) := by decide +kernel
theorem dX1_layLeftOf_61 : decode cX1_layLeftOf 61 = .ok (.iconst 1, 1) := by decide +kernel
theorem dX1_layLeftOf_62 : decode cX1_layLeftOf 62 = .ok (.istore_n 3, 1) := by decide +kernel
theorem dX1_layLeftOf_63 : decode cX1_layLeftOf 63 = .ok (.iinc 4 1, 3) := by decide +kernel
theorem dX1_layLeftOf_66 : decode cX1_layLeftOf 66 = .ok (.goto (-61), 3) := by decide +kernel
theorem dX1_layLeftOf_69 : decode cX1_layLeftOf 69 = .ok (.iload_n 3, 1) := by decide +kernel
theorem dX1_layLeftOf_70 : decode cX1_layLeftOf 70 = .ok (.ireturn, 1) := by decide +kernel
set_option maxRecDepth 20000 in
theorem ggX1_beginsCell_X1_powerOf : GoodIn wsX1_beginsCell wsX1_powerOf := goodIn_r _ [7, 8, 1, 9, 10, 11, 12, 13, 14, 15, 16, 17, 18, 19, 20, 21, 33, 34, 35, 36, 37, 38, 39, 40, 41, 42, 43, 44, 45, 46, 47, 48] (by decide +kernel) (by decide +kernel)
set_option maxRecDepth 20000 in
theorem gX1_beginsCell_X1_powerOf : GoodIn wsX1_beginsCell (wsV RX1 71 RX1 yX1_powerOf wsX1_powerOf) := goodIn_app (goodIn_of _ (by decide +kernel)) ggX1_beginsCell_X1_powerOf
set_option maxRecDepth 20000 in
theorem ggX1_beginsCell_X2_turn_ : GoodIn wsX1_beginsCell wsX2_turn_ := goodIn_r _ [26, 27, 28, 29, 30, 31, 25, 32, 41, 42, 43] (by decide +kernel) (by decide +kernel)
set_option maxRecDepth 20000 in
theorem gX1_beginsCell_X2_turn_ : GoodIn wsX1_beginsCell (wsV RX1 67 RX2 yX2_turn_ wsX2_turn_) := goodIn_app (goodIn_of _ (by decide +kernel)) ggX1_beginsCell_X2_turn_
theorem dX1_beginsCell_0 : decode cX1_beginsCell 0 = .ok (.iconst 0, 1) := by decide +kernel
theorem dX1_beginsCell_1 : decode cX1_beginsCell 1 = .ok (.istore_n 3, 1) := by decide +kernel
theorem dX1_beginsCell_2 : decode cX1_beginsCell 2 = .ok (.iload_n 3, 1) := by decide +kernel
theorem dX1_beginsCell_3 : decode cX1_beginsCell 3 = .ok (.aload_n 0, 1) := by decide +kernel
theorem dX1_beginsCell_4 : decode cX1_beginsCell 4 = .ok (.getfield 38, 3) := by decide +kernel
theorem dX1_beginsCell_7 : decode cX1_beginsCell 7 = .ok (.getfield 48, 3) := by decide +kernel
theorem dX1_beginsCell_10 : decode cX1_beginsCell 10 = .ok (.if_icmp .ge 62, 3) := by decide +kernel
theorem dX1_beginsCell_13 : decode cX1_beginsCell 13 = .ok (.aload_n 0, 1) := by decide +kernel
theorem dX1_beginsCell_14 : decode cX1_beginsCell 14 = .ok (.iload_n 3, 1) := by decide +kernel
theorem dX1_beginsCell_15 : decode cX1_beginsCell 15 = .ok (.invokevirtual 71, 3) := by decide +kernel
theorem dX1_beginsCell_18 : decode cX1_beginsCell 18 = .ok (.lstore 4, 2) := by decide +kernel
theorem dX1_beginsCell_20 : decode cX1_beginsCell 20 = .ok (.iload_n 3, 1) := by decide +kernel
theorem dX1_beginsCell_21 : decode cX1_beginsCell 21 = .ok (.iload_n 1, 1) := by decide +kernel
theorem dX1_beginsCell_22 : decode cX1_beginsCell 22 = .ok (.if_icmp .lt 16, 3) := by decide +kernel
theorem dX1_beginsCell_25 : decode cX1_beginsCell 25 = .ok (.aload_n 0, 1) := by decide +kernel
theorem dX1_beginsCell_26 : decode cX1_beginsCell 26 = .ok (.getfield 38, 3) := by decide +kernel
theorem dX1_beginsCell_29 : decode cX1_beginsCell 29 = .ok (.iload_n 1, 1) := by decide +kernel
theorem dX1_beginsCell_30 : decode cX1_beginsCell 30 = .ok (.iload_n 2, 1) := by decide +kernel
theorem dX1_beginsCell_31 : decode cX1_beginsCell 31 = .ok (.iload_n 3, 1) := by decide +kernel
theorem dX1_beginsCell_32 : decode cX1_beginsCell 32 = .ok (.invokevirtual 67, 3) := by decide +kernel
theorem dX1_beginsCell_35 : decode cX1_beginsCell 35 = .ok (.ifCond .ge 7, 3) := by decide +kernel
theorem dX1_beginsCell_38 : decode cX1_beginsCell 38 = .ok (.iconst 1, 1) := by decide +kernel
theorem dX1_beginsCell_39 : decode cX1_beginsCell 39 = .ok (.goto 4, 3) := by decide +kernel
theorem dX1_beginsCell_42 : decode cX1_beginsCell 42 = .ok (.iconst 0, 1) := by decide +kernel
theorem dX1_beginsCell_43 : decode cX1_beginsCell 43 = .ok (.istore 6, 2) := by decide +kernel
theorem dX1_beginsCell_45 : decode cX1_beginsCell 45 = .ok (.lload 4, 2) := by decide +kernel
theorem dX1_beginsCell_47 : decode cX1_beginsCell 47 = .ok (.lconst 0, 1) := by decide +kernel
theorem dX1_beginsCell_48 : decode cX1_beginsCell 48 = .ok (.lcmp, 1) := by decide +kernel
theorem dX1_beginsCell_49 : decode cX1_beginsCell 49 = .ok (.ifCond .lt 15, 3) := by decide +kernel
theorem dX1_beginsCell_52 : decode cX1_beginsCell 52 = .ok (.lload 4, 2) := by decide +kernel
theorem dX1_beginsCell_54 : decode cX1_beginsCell 54 = .ok (.lconst 0, 1) := by decide +kernel
theorem dX1_beginsCell_55 : decode cX1_beginsCell 55 = .ok (.lcmp, 1) := by decide +kernel
theorem dX1_beginsCell_56 : decode cX1_beginsCell 56 = .ok (.ifCond .ne 10, 3) := by decide +kernel
theorem dX1_beginsCell_59 : decode cX1_beginsCell 59 = .ok (.iload 6, 2) := by decide +kernel
theorem dX1_beginsCell_61 : decode cX1_beginsCell 61 = .ok (.ifCond .eq 5, 3) := by decide +kernel
theorem dX1_beginsCell_64 : decode cX1_beginsCell 64 = .ok (.iconst 0, 1) := by decide +kernel
theorem dX1_beginsCell_65 : decode cX1_beginsCell 65 = .ok (.ireturn, 1) := by decide +kernel
theorem dX1_beginsCell_66 : decode cX1_beginsCell 66 = .ok (.iinc 3 1, 3) := by decide +kernel
theorem dX1_beginsCell_69 : decode cX1_beginsCell 69 = .ok (.goto (-67), 3) := by decide +kernel
theorem dX1_beginsCell_72 : decode cX1_beginsCell 72 = .ok (.iconst 1, 1) := by decide +kernel
theorem dX1_beginsCell_73 : decode cX1_beginsCell 73 = .ok (.ireturn, 1) := by decide +kernel
set_option maxRecDepth 20000 in
theorem ggX1_powerOf_X0_power : GoodIn wsX1_powerOf wsX0_power := goodIn_r _ [9, 10, 11, 12, 13, 14, 15, 27, 28, 29, 30, 31] (by decide +kernel) (by decide +kernel)
set_option maxRecDepth 20000 in
theorem gX1_powerOf_X0_power : GoodIn wsX1_powerOf (wsV RX1 85 RX0 yX0_power wsX0_power) := goodIn_app (goodIn_of _ (by decide +kernel)) ggX1_powerOf_X0_power
theorem dX1_powerOf_0 : decode cX1_powerOf 0 = .ok (.aload_n 0, 1) := by decide +kernel
theorem dX1_powerOf_1 : decode cX1_powerOf 1 = .ok (.getfield 12, 3) := by decide +kernel
theorem dX1_powerOf_4 : decode cX1_powerOf 4 = .ok (.aload_n 0, 1) := by decide +kernel
theorem dX1_powerOf_5 : decode cX1_powerOf 5 = .ok (.getfield 38, 3) := by decide +kernel
theorem dX1_powerOf_8 : decode cX1_powerOf 8 = .ok (.getfield 79, 3) := by decide +kernel
theorem dX1_powerOf_11 : decode cX1_powerOf 11 = .ok (.iload_n 1, 1) := by decide +kernel
theorem dX1_powerOf_12 : decode cX1_powerOf 12 = .ok (.iaload, 1) := by decide +kernel
theorem dX1_powerOf_13 : decode cX1_powerOf 13 = .ok (.aload_n 0, 1) := by decide +kernel
theorem dX1_powerOf_14 : decode cX1_powerOf 14 = .ok (.getfield 38, 3) := by decide +kernel
theorem dX1_powerOf_17 : decode cX1_powerOf 17 = .ok (.getfield 82, 3) := by decide +kernel
theorem dX1_powerOf_20 : decode cX1_powerOf 20 = .ok (.iload_n 1, 1) := by decide +kernel
theorem dX1_powerOf_21 : decode cX1_powerOf 21 = .ok (.iaload, 1) := by decide +kernel
theorem dX1_powerOf_22 : decode cX1_powerOf 22 = .ok (.invokevirtual 85, 3) := by decide +kernel
theorem dX1_powerOf_25 : decode cX1_powerOf 25 = .ok (.lreturn, 1) := by decide +kernel
set_option maxRecDepth 20000 in
theorem ggX1_addCell_X1_powerOf : GoodIn wsX1_addCell wsX1_powerOf := goodIn_r _ [9, 10, 3, 11, 12, 13, 14, 15, 16, 17, 18, 19, 20, 21, 22, 23, 60, 61, 62, 63, 64, 65, 66, 67, 68, 69, 70, 71, 72, 73, 74, 75] (by decide +kernel) (by decide +kernel)
set_option maxRecDepth 20000 in
theorem gX1_addCell_X1_powerOf : GoodIn wsX1_addCell (wsV RX1 71 RX1 yX1_powerOf wsX1_powerOf) := goodIn_app (goodIn_of _ (by decide +kernel)) ggX1_addCell_X1_powerOf
set_option maxRecDepth 20000 in
theorem ggX1_addCell_X1_insertRound : GoodIn wsX1_addCell wsX1_insertRound := goodIn_r _ [27, 3, 28, 29, 30, 31, 32, 33, 34, 35, 36, 37, 38, 39, 60, 61, 62, 63, 64, 65, 66, 67, 68, 69, 70] (by decide +kernel) (by decide +kernel)
set_option maxRecDepth 20000 in
theorem gX1_addCell_X1_insertRound : GoodIn wsX1_addCell (wsV RX1 89 RX1 yX1_insertRound wsX1_insertRound) := goodIn_app (goodIn_of _ (by decide +kernel)) ggX1_addCell_X1_insertRound
set_option maxRecDepth 20000 in
theorem ggX1_addCell_X1_claimSides : GoodIn wsX1_addCell wsX1_claimSides := goodIn_r _ [43, 44, 45, 46, 47, 8, 48, 2, 49, 50, 51, 52, 28, 53, 54, 55, 56, 57, 58, 59, 60, 61, 62, 63, 64, 65, 66, 67] (by decide +kernel) (by decide +kernel)
set_option maxRecDepth 20000 in
theorem gX1_addCell_X1_claimSides : GoodIn wsX1_addCell (wsV RX1 93 RX1 yX1_claimSides wsX1_claimSides) := goodIn_app (goodIn_of _ (by decide +kernel)) ggX1_addCell_X1_claimSides
theorem dX1_addCell_0 : decode cX1_addCell 0 = .ok (.aload_n 0, 1) := by decide +kernel
theorem dX1_addCell_1 : decode cX1_addCell 1 = .ok (.getfield 28, 3) := by decide +kernel
theorem dX1_addCell_4 : decode cX1_addCell 4 = .ok (.bipush 35, 2) := by decide +kernel
theorem dX1_addCell_6 : decode cX1_addCell 6 = .ok (.if_icmp .lt 4, 3) := by decide +kernel
theorem dX1_addCell_9 : decode cX1_addCell 9 = .ok (.return_, 1) := by decide +kernel
theorem dX1_addCell_10 : decode cX1_addCell 10 = .ok (.aload_n 0, 1) := by decide +kernel
theorem dX1_addCell_11 : decode cX1_addCell 11 = .ok (.getfield 22, 3) := by decide +kernel
theorem dX1_addCell_14 : decode cX1_addCell 14 = .ok (.aload_n 0, 1) := by decide +kernel
theorem dX1_addCell_15 : decode cX1_addCell 15 = .ok (.getfield 28, 3) := by decide +kernel
theorem dX1_addCell_18 : decode cX1_addCell 18 = .ok (.iaload, 1) := by decide +kernel
theorem dX1_addCell_19 : decode cX1_addCell 19 = .ok (.istore_n 2, 1) := by decide +kernel
theorem dX1_addCell_20 : decode cX1_addCell 20 = .ok (.iload_n 2, 1) := by decide +kernel
theorem dX1_addCell_21 : decode cX1_addCell 21 = .ok (.istore_n 3, 1) := by decide +kernel
theorem dX1_addCell_22 : decode cX1_addCell 22 = .ok (.iload_n 1, 1) := by decide +kernel
theorem dX1_addCell_23 : decode cX1_addCell 23 = .ok (.istore 4, 2) := by decide +kernel
theorem dX1_addCell_25 : decode cX1_addCell 25 = .ok (.iload 4, 2) := by decide +kernel
theorem dX1_addCell_27 : decode cX1_addCell 27 = .ok (.aload_n 0, 1) := by decide +kernel
theorem dX1_addCell_28 : decode cX1_addCell 28 = .ok (.getfield 38, 3) := by decide +kernel
theorem dX1_addCell_31 : decode cX1_addCell 31 = .ok (.getfield 48, 3) := by decide +kernel
theorem dX1_addCell_34 : decode cX1_addCell 34 = .ok (.if_icmp .ge 37, 3) := by decide +kernel
theorem dX1_addCell_37 : decode cX1_addCell 37 = .ok (.iload_n 3, 1) := by decide +kernel
theorem dX1_addCell_38 : decode cX1_addCell 38 = .ok (.bipush 105, 2) := by decide +kernel
theorem dX1_addCell_40 : decode cX1_addCell 40 = .ok (.if_icmp .ge 31, 3) := by decide +kernel
theorem dX1_addCell_43 : decode cX1_addCell 43 = .ok (.aload_n 0, 1) := by decide +kernel
theorem dX1_addCell_44 : decode cX1_addCell 44 = .ok (.iload 4, 2) := by decide +kernel
theorem dX1_addCell_46 : decode cX1_addCell 46 = .ok (.invokevirtual 71, 3) := by decide +kernel
theorem dX1_addCell_49 : decode cX1_addCell 49 = .ok (.lconst 0, 1) := by decide +kernel
theorem dX1_addCell_50 : decode cX1_addCell 50 = .ok (.lcmp, 1) := by decide +kernel
theorem dX1_addCell_51 : decode cX1_addCell 51 = .ok (.ifCond .ne 14, 3) := by decide +kernel
theorem dX1_addCell_54 : decode cX1_addCell 54 = .ok (.aload_n 0, 1) := by decide +kernel
theorem dX1_addCell_55 : decode cX1_addCell 55 = .ok (.iload_n 2, 1) := by decide +kernel
theorem dX1_addCell_56 : decode cX1_addCell 56 = .ok (.iload_n 3, 1) := by decide +kernel
theorem dX1_addCell_57 : decode cX1_addCell 57 = .ok (.iload 4, 2) := by decide +kernel
theorem dX1_addCell_59 : decode cX1_addCell 59 = .ok (.invokevirtual 89, 3) := by decide +kernel
theorem dX1_addCell_62 : decode cX1_addCell 62 = .ok (.iinc 3 1, 3) := by decide +kernel
theorem dX1_addCell_65 : decode cX1_addCell 65 = .ok (.iinc 4 1, 3) := by decide +kernel
theorem dX1_addCell_68 : decode cX1_addCell 68 = .ok (.goto (-43), 3) := by decide +kernel
theorem dX1_addCell_71 : decode cX1_addCell 71 = .ok (.aload_n 0, 1) := by decide +kernel
theorem dX1_addCell_72 : decode cX1_addCell 72 = .ok (.getfield 22, 3) := by decide +kernel
theorem dX1_addCell_75 : decode cX1_addCell 75 = .ok (.aload_n 0, 1) := by decide +kernel
theorem dX1_addCell_76 : decode cX1_addCell 76 = .ok (.getfield 28, 3) := by decide +kernel
theorem dX1_addCell_79 : decode cX1_addCell 79 = .ok (.iconst 1, 1) := by decide +kernel
theorem dX1_addCell_80 : decode cX1_addCell 80 = .ok (.iadd, 1) := by decide +kernel
theorem dX1_addCell_81 : decode cX1_addCell 81 = .ok (.iload_n 3, 1) := by decide +kernel
theorem dX1_addCell_82 : decode cX1_addCell 82 = .ok (.iastore, 1) := by decide +kernel
theorem dX1_addCell_83 : decode cX1_addCell 83 = .ok (.aload_n 0, 1) := by decide +kernel
theorem dX1_addCell_84 : decode cX1_addCell 84 = .ok (.aload_n 0, 1) := by decide +kernel
theorem dX1_addCell_85 : decode cX1_addCell 85 = .ok (.getfield 28, 3) := by decide +kernel
theorem dX1_addCell_88 : decode cX1_addCell 88 = .ok (.invokevirtual 93, 3) := by decide +kernel
theorem dX1_addCell_91 : decode cX1_addCell 91 = .ok (.aload_n 0, 1) := by decide +kernel
theorem dX1_addCell_92 : decode cX1_addCell 92 = .ok (.dup, 1) := by decide +kernel
theorem dX1_addCell_93 : decode cX1_addCell 93 = .ok (.getfield 28, 3) := by decide +kernel
theorem dX1_addCell_96 : decode cX1_addCell 96 = .ok (.iconst 1, 1) := by decide +kernel
theorem dX1_addCell_97 : decode cX1_addCell 97 = .ok (.iadd, 1) := by decide +kernel
theorem dX1_addCell_98 : decode cX1_addCell 98 = .ok (.putfield 28, 3) := by decide +kernel
theorem dX1_addCell_101 : decode cX1_addCell 101 = .ok (.return_, 1) := by decide +kernel
set_option maxRecDepth 20000 in
theorem ggX1_insertRound_X2_turn_ : GoodIn wsX1_insertRound wsX2_turn_ := goodIn_r _ [7, 8, 9, 10, 11, 12, 6, 13, 22, 23, 24] (by decide +kernel) (by decide +kernel)
set_option maxRecDepth 20000 in
theorem gX1_insertRound_X2_turn_ : GoodIn wsX1_insertRound (wsV RX1 67 RX2 yX2_turn_ wsX2_turn_) := goodIn_app (goodIn_of _ (by decide +kernel)) ggX1_insertRound_X2_turn_
theorem dX1_insertRound_0 : decode cX1_insertRound 0 = .ok (.iload_n 2, 1) := by decide +kernel
theorem dX1_insertRound_1 : decode cX1_insertRound 1 = .ok (.istore 4, 2) := by decide +kernel
theorem dX1_insertRound_3 : decode cX1_insertRound 3 = .ok (.iload 4, 2) := by decide +kernel
theorem dX1_insertRound_5 : decode cX1_insertRound 5 = .ok (.iload_n 1, 1) := by decide +kernel
theorem dX1_insertRound_6 : decode cX1_insertRound 6 = .ok (.iconst 1, 1) := by decide +kernel
theorem dX1_insertRound_7 : decode cX1_insertRound 7 = .ok (.iadd, 1) := by decide +kernel
theorem dX1_insertRound_8 : decode cX1_insertRound 8 = .ok (.if_icmp .le 51, 3) := by decide +kernel
theorem dX1_insertRound_11 : decode cX1_insertRound 11 = .ok (.aload_n 0, 1) := by decide +kernel
theorem dX1_insertRound_12 : decode cX1_insertRound 12 = .ok (.getfield 38, 3) := by decide +kernel
theorem dX1_insertRound_15 : decode cX1_insertRound 15 = .ok (.aload_n 0, 1) := by decide +kernel
theorem dX1_insertRound_16 : decode cX1_insertRound 16 = .ok (.getfield 18, 3) := by decide +kernel
theorem dX1_insertRound_19 : decode cX1_insertRound 19 = .ok (.iload_n 1, 1) := by decide +kernel
theorem dX1_insertRound_20 : decode cX1_insertRound 20 = .ok (.iaload, 1) := by decide +kernel
theorem dX1_insertRound_21 : decode cX1_insertRound 21 = .ok (.aload_n 0, 1) := by decide +kernel
theorem dX1_insertRound_22 : decode cX1_insertRound 22 = .ok (.getfield 18, 3) := by decide +kernel
theorem dX1_insertRound_25 : decode cX1_insertRound 25 = .ok (.iload 4, 2) := by decide +kernel
theorem dX1_insertRound_27 : decode cX1_insertRound 27 = .ok (.iconst 1, 1) := by decide +kernel
theorem dX1_insertRound_28 : decode cX1_insertRound 28 = .ok (.isub, 1) := by decide +kernel
theorem dX1_insertRound_29 : decode cX1_insertRound 29 = .ok (.iaload, 1) := by decide +kernel
theorem dX1_insertRound_30 : decode cX1_insertRound 30 = .ok (.iload_n 3, 1) := by decide +kernel
theorem dX1_insertRound_31 : decode cX1_insertRound 31 = .ok (.invokevirtual 67, 3) := by decide +kernel
theorem dX1_insertRound_34 : decode cX1_insertRound 34 = .ok (.ifCond .ge 25, 3) := by decide +kernel
theorem dX1_insertRound_37 : decode cX1_insertRound 37 = .ok (.aload_n 0, 1) := by decide +kernel
theorem dX1_insertRound_38 : decode cX1_insertRound 38 = .ok (.getfield 18, 3) := by decide +kernel
theorem dX1_insertRound_41 : decode cX1_insertRound 41 = .ok (.iload 4, 2) := by decide +kernel
theorem dX1_insertRound_43 : decode cX1_insertRound 43 = .ok (.aload_n 0, 1) := by decide +kernel
theorem dX1_insertRound_44 : decode cX1_insertRound 44 = .ok (.getfield 18, 3) := by decide +kernel
theorem dX1_insertRound_47 : decode cX1_insertRound 47 = .ok (.iload 4, 2) := by decide +kernel
theorem dX1_insertRound_49 : decode cX1_insertRound 49 = .ok (.iconst 1, 1) := by decide +kernel
theorem dX1_insertRound_50 : decode cX1_insertRound 50 = .ok (.isub, 1) := by decide +kernel
theorem dX1_insertRound_51 : decode cX1_insertRound 51 = .ok (.iaload, 1) := by decide +kernel
theorem dX1_insertRound_52 : decode cX1_insertRound 52 = .ok (.iastore, 1) := by decide +kernel
theorem dX1_insertRound_53 : decode cX1_insertRound 53 = .ok (.iinc 4 (-1), 3) := by decide +kernel
theorem dX1_insertRound_56 : decode cX1_insertRound 56 = .ok (.goto (-53), 3) := by decide +kernel
theorem dX1_insertRound_59 : decode cX1_insertRound 59 = .ok (.aload_n 0, 1) := by decide +kernel
theorem dX1_insertRound_60 : decode cX1_insertRound 60 = .ok (.getfield 18, 3) := by decide +kernel
theorem dX1_insertRound_63 : decode cX1_insertRound 63 = .ok (.iload 4, 2) := by decide +kernel
theorem dX1_insertRound_65 : decode cX1_insertRound 65 = .ok (.iload_n 3, 1) := by decide +kernel
theorem dX1_insertRound_66 : decode cX1_insertRound 66 = .ok (.iastore, 1) := by decide +kernel
theorem dX1_insertRound_67 : decode cX1_insertRound 67 = .ok (.return_, 1) := by decide +kernel
set_option maxRecDepth 20000 in
theorem ggX1_claimSides_X1_sideCount : GoodIn wsX1_claimSides wsX1_sideCount := goodIn_r _ [6, 7, 20, 21, 22, 23, 24, 25, 26, 27] (by decide +kernel) (by decide +kernel)
set_option maxRecDepth 20000 in
theorem gX1_claimSides_X1_sideCount : GoodIn wsX1_claimSides (wsV RX1 96 RX1 yX1_sideCount wsX1_sideCount) := goodIn_app (goodIn_of _ (by decide +kernel)) ggX1_claimSides_X1_sideCount
set_option maxRecDepth 20000 in
theorem ggX1_claimSides_X1_siteOf : GoodIn wsX1_claimSides wsX1_siteOf := goodIn_r _ [11, 12, 7, 20, 21, 22, 23, 24, 25, 26, 27] (by decide +kernel) (by decide +kernel)
set_option maxRecDepth 20000 in
theorem gX1_claimSides_X1_siteOf : GoodIn wsX1_claimSides (wsV RX1 100 RX1 yX1_siteOf wsX1_siteOf) := goodIn_app (goodIn_of _ (by decide +kernel)) ggX1_claimSides_X1_siteOf
set_option maxRecDepth 20000 in
theorem ggX1_claimSides_X1_siteAfter : GoodIn wsX1_claimSides wsX1_siteAfter := goodIn_r _ [16, 2, 3, 4, 5, 6, 7, 8, 9, 10, 11, 12, 20, 21, 22, 23, 24, 25, 26, 27] (by decide +kernel) (by decide +kernel)
set_option maxRecDepth 20000 in
theorem gX1_claimSides_X1_siteAfter : GoodIn wsX1_claimSides (wsV RX1 104 RX1 yX1_siteAfter wsX1_siteAfter) := goodIn_app (goodIn_of _ (by decide +kernel)) ggX1_claimSides_X1_siteAfter
set_option maxRecDepth 20000 in
theorem ggX1_claimSides_X1_sideKey : GoodIn wsX1_claimSides wsX1_sideKey := goodIn_r _ [19] (by decide +kernel) (by decide +kernel)
set_option maxRecDepth 20000 in
theorem gX1_claimSides_X1_sideKey : GoodIn wsX1_claimSides (va_wsS RX1 107 yX1_sideKey wsX1_sideKey) := goodIn_app (goodIn_of _ (by decide +kernel)) ggX1_claimSides_X1_sideKey
theorem dX1_claimSides_0 : decode cX1_claimSides 0 = .ok (.aload_n 0, 1) := by decide +kernel
theorem dX1_claimSides_1 : decode cX1_claimSides 1 = .ok (.iload_n 1, 1) := by decide +kernel
theorem dX1_claimSides_2 : decode cX1_claimSides 2 = .ok (.invokevirtual 96, 3) := by decide +kernel
theorem dX1_claimSides_5 : decode cX1_claimSides 5 = .ok (.istore_n 2, 1) := by decide +kernel
theorem dX1_claimSides_6 : decode cX1_claimSides 6 = .ok (.iconst 0, 1) := by decide +kernel
theorem dX1_claimSides_7 : decode cX1_claimSides 7 = .ok (.istore_n 3, 1) := by decide +kernel
theorem dX1_claimSides_8 : decode cX1_claimSides 8 = .ok (.iload_n 3, 1) := by decide +kernel
theorem dX1_claimSides_9 : decode cX1_claimSides 9 = .ok (.iload_n 2, 1) := by decide +kernel
theorem dX1_claimSides_10 : decode cX1_claimSides 10 = .ok (.if_icmp .ge 30, 3) := by decide +kernel
theorem dX1_claimSides_13 : decode cX1_claimSides 13 = .ok (.aload_n 0, 1) := by decide +kernel
theorem dX1_claimSides_14 : decode cX1_claimSides 14 = .ok (.getfield 25, 3) := by decide +kernel
theorem dX1_claimSides_17 : decode cX1_claimSides 17 = .ok (.aload_n 0, 1) := by decide +kernel
theorem dX1_claimSides_18 : decode cX1_claimSides 18 = .ok (.iload_n 1, 1) := by decide +kernel
theorem dX1_claimSides_19 : decode cX1_claimSides 19 = .ok (.iload_n 3, 1) := by decide +kernel
theorem dX1_claimSides_20 : decode cX1_claimSides 20 = .ok (.invokevirtual 100, 3) := by decide +kernel
theorem dX1_claimSides_23 : decode cX1_claimSides 23 = .ok (.aload_n 0, 1) := by decide +kernel
theorem dX1_claimSides_24 : decode cX1_claimSides 24 = .ok (.iload_n 1, 1) := by decide +kernel
theorem dX1_claimSides_25 : decode cX1_claimSides 25 = .ok (.iload_n 3, 1) := by decide +kernel
theorem dX1_claimSides_26 : decode cX1_claimSides 26 = .ok (.invokevirtual 104, 3) := by decide +kernel
theorem dX1_claimSides_29 : decode cX1_claimSides 29 = .ok (.invokestatic 107, 3) := by decide +kernel
theorem dX1_claimSides_32 : decode cX1_claimSides 32 = .ok (.iload_n 1, 1) := by decide +kernel
theorem dX1_claimSides_33 : decode cX1_claimSides 33 = .ok (.iastore, 1) := by decide +kernel
theorem dX1_claimSides_34 : decode cX1_claimSides 34 = .ok (.iinc 3 1, 3) := by decide +kernel
theorem dX1_claimSides_37 : decode cX1_claimSides 37 = .ok (.goto (-29), 3) := by decide +kernel
theorem dX1_claimSides_40 : decode cX1_claimSides 40 = .ok (.return_, 1) := by decide +kernel
theorem dX1_sideKey_0 : decode cX1_sideKey 0 = .ok (.iload_n 0, 1) := by decide +kernel
theorem dX1_sideKey_1 : decode cX1_sideKey 1 = .ok (.bipush 20, 2) := by decide +kernel
theorem dX1_sideKey_3 : decode cX1_sideKey 3 = .ok (.imul, 1) := by decide +kernel
theorem dX1_sideKey_4 : decode cX1_sideKey 4 = .ok (.iload_n 1, 1) := by decide +kernel
theorem dX1_sideKey_5 : decode cX1_sideKey 5 = .ok (.iadd, 1) := by decide +kernel
theorem dX1_sideKey_6 : decode cX1_sideKey 6 = .ok (.ireturn, 1) := by decide +kernel
set_option maxRecDepth 20000 in
theorem ggX1_walkRim_X1_firstOnRim : GoodIn wsX1_walkRim wsX1_firstOnRim := goodIn_r _ [7, 8, 9, 10, 11, 12, 6, 13, 14, 15, 16, 17, 18, 19, 20, 21, 22, 23, 24, 25, 26, 27, 28] (by decide +kernel) (by decide +kernel)
set_option maxRecDepth 20000 in
theorem gX1_walkRim_X1_firstOnRim : GoodIn wsX1_walkRim (wsV RX1 110 RX1 yX1_firstOnRim wsX1_firstOnRim) := goodIn_app (goodIn_of _ (by decide +kernel)) ggX1_walkRim_X1_firstOnRim
set_option maxRecDepth 20000 in
theorem ggX1_walkRim_X1_nextOnRim : GoodIn wsX1_walkRim wsX1_nextOnRim := goodIn_r _ [13, 8, 9, 14, 15, 16, 6, 17, 18, 19, 20, 21, 22, 23, 24, 25, 26, 27, 28] (by decide +kernel) (by decide +kernel)
set_option maxRecDepth 20000 in
theorem gX1_walkRim_X1_nextOnRim : GoodIn wsX1_walkRim (wsV RX1 114 RX1 yX1_nextOnRim wsX1_nextOnRim) := goodIn_app (goodIn_of _ (by decide +kernel)) ggX1_walkRim_X1_nextOnRim
theorem dX1_walkRim_0 : decode cX1_walkRim 0 = .ok (.aload_n 0, 1) := by decide +kernel
theorem dX1_walkRim_1 : decode cX1_walkRim 1 = .ok (.iconst 0, 1) := by decide +kernel
theorem dX1_walkRim_2 : decode cX1_walkRim 2 = .ok (.putfield 35, 3) := by decide +kernel
theorem dX1_walkRim_5 : decode cX1_walkRim 5 = .ok (.aload_n 0, 1) := by decide +kernel
theorem dX1_walkRim_6 : decode cX1_walkRim 6 = .ok (.invokevirtual 110, 3) := by decide +kernel
theorem dX1_walkRim_9 : decode cX1_walkRim 9 = .ok (.istore_n 1, 1) := by decide +kernel
theorem dX1_walkRim_10 : decode cX1_walkRim 10 = .ok (.iload_n 1, 1) := by decide +kernel
theorem dX1_walkRim_11 : decode cX1_walkRim 11 = .ok (.istore_n 2, 1) := by decide +kernel
theorem dX1_walkRim_12 : decode cX1_walkRim 12 = .ok (.iload_n 2, 1) := by decide +kernel
theorem dX1_walkRim_13 : decode cX1_walkRim 13 = .ok (.iconst (-1), 1) := by decide +kernel
theorem dX1_walkRim_14 : decode cX1_walkRim 14 = .ok (.if_icmp .eq 52, 3) := by decide +kernel
theorem dX1_walkRim_17 : decode cX1_walkRim 17 = .ok (.aload_n 0, 1) := by decide +kernel
theorem dX1_walkRim_18 : decode cX1_walkRim 18 = .ok (.getfield 35, 3) := by decide +kernel
theorem dX1_walkRim_21 : decode cX1_walkRim 21 = .ok (.bipush 20, 2) := by decide +kernel
theorem dX1_walkRim_23 : decode cX1_walkRim 23 = .ok (.if_icmp .ge 43, 3) := by decide +kernel
theorem dX1_walkRim_26 : decode cX1_walkRim 26 = .ok (.aload_n 0, 1) := by decide +kernel
theorem dX1_walkRim_27 : decode cX1_walkRim 27 = .ok (.getfield 32, 3) := by decide +kernel
theorem dX1_walkRim_30 : decode cX1_walkRim 30 = .ok (.aload_n 0, 1) := by decide +kernel
theorem dX1_walkRim_31 : decode cX1_walkRim 31 = .ok (.getfield 35, 3) := by decide +kernel
theorem dX1_walkRim_34 : decode cX1_walkRim 34 = .ok (.iload_n 2, 1) := by decide +kernel
theorem dX1_walkRim_35 : decode cX1_walkRim 35 = .ok (.iastore, 1) := by decide +kernel
theorem dX1_walkRim_36 : decode cX1_walkRim 36 = .ok (.aload_n 0, 1) := by decide +kernel
theorem dX1_walkRim_37 : decode cX1_walkRim 37 = .ok (.dup, 1) := by decide +kernel
theorem dX1_walkRim_38 : decode cX1_walkRim 38 = .ok (.getfield 35, 3) := by decide +kernel
theorem dX1_walkRim_41 : decode cX1_walkRim 41 = .ok (.iconst 1, 1) := by decide +kernel
theorem dX1_walkRim_42 : decode cX1_walkRim 42 = .ok (.iadd, 1) := by decide +kernel
theorem dX1_walkRim_43 : decode cX1_walkRim 43 = .ok (.putfield 35, 3) := by decide +kernel
theorem dX1_walkRim_46 : decode cX1_walkRim 46 = .ok (.aload_n 0, 1) := by decide +kernel
theorem dX1_walkRim_47 : decode cX1_walkRim 47 = .ok (.iload_n 2, 1) := by decide +kernel
theorem dX1_walkRim_48 : decode cX1_walkRim 48 = .ok (.invokevirtual 114, 3) := by decide +kernel
theorem dX1_walkRim_51 : decode cX1_walkRim 51 = .ok (.istore_n 3, 1) := by decide +kernel
theorem dX1_walkRim_52 : decode cX1_walkRim 52 = .ok (.iload_n 3, 1) := by decide +kernel
theorem dX1_walkRim_53 : decode cX1_walkRim 53 = .ok (.iload_n 1, 1) := by decide +kernel
theorem dX1_walkRim_54 : decode cX1_walkRim 54 = .ok (.if_icmp .ne 7, 3) := by decide +kernel
theorem dX1_walkRim_57 : decode cX1_walkRim 57 = .ok (.iconst (-1), 1) := by decide +kernel
theorem dX1_walkRim_58 : decode cX1_walkRim 58 = .ok (.goto 4, 3) := by decide +kernel
theorem dX1_walkRim_61 : decode cX1_walkRim 61 = .ok (.iload_n 3, 1) := by decide +kernel
theorem dX1_walkRim_62 : decode cX1_walkRim 62 = .ok (.istore_n 2, 1) := by decide +kernel
theorem dX1_walkRim_63 : decode cX1_walkRim 63 = .ok (.goto (-51), 3) := by decide +kernel
theorem dX1_walkRim_66 : decode cX1_walkRim 66 = .ok (.return_, 1) := by decide +kernel
set_option maxRecDepth 20000 in
theorem ggX1_firstOnRim_X1_nextOnRim : GoodIn wsX1_firstOnRim wsX1_nextOnRim := goodIn_r _ [7, 1, 2, 8, 9, 10, 6, 11, 12, 13, 14, 15, 16, 17, 18, 19, 20, 21, 22] (by decide +kernel) (by decide +kernel)
set_option maxRecDepth 20000 in
theorem gX1_firstOnRim_X1_nextOnRim : GoodIn wsX1_firstOnRim (wsV RX1 114 RX1 yX1_nextOnRim wsX1_nextOnRim) := goodIn_app (goodIn_of _ (by decide +kernel)) ggX1_firstOnRim_X1_nextOnRim
theorem dX1_firstOnRim_0 : decode cX1_firstOnRim 0 = .ok (.iconst 0, 1) := by decide +kernel
theorem dX1_firstOnRim_1 : decode cX1_firstOnRim 1 = .ok (.istore_n 1, 1) := by decide +kernel
theorem dX1_firstOnRim_2 : decode cX1_firstOnRim 2 = .ok (.iload_n 1, 1) := by decide +kernel
theorem dX1_firstOnRim_3 : decode cX1_firstOnRim 3 = .ok (.aload_n 0, 1) := by decide +kernel
theorem dX1_firstOnRim_4 : decode cX1_firstOnRim 4 = .ok (.getfield 38, 3) := by decide +kernel
theorem dX1_firstOnRim_7 : decode cX1_firstOnRim 7 = .ok (.getfield 48, 3) := by decide +kernel
theorem dX1_firstOnRim_10 : decode cX1_firstOnRim 10 = .ok (.if_icmp .ge 20, 3) := by decide +kernel
theorem dX1_firstOnRim_13 : decode cX1_firstOnRim 13 = .ok (.aload_n 0, 1) := by decide +kernel
theorem dX1_firstOnRim_14 : decode cX1_firstOnRim 14 = .ok (.iload_n 1, 1) := by decide +kernel
theorem dX1_firstOnRim_15 : decode cX1_firstOnRim 15 = .ok (.invokevirtual 114, 3) := by decide +kernel
theorem dX1_firstOnRim_18 : decode cX1_firstOnRim 18 = .ok (.iconst (-1), 1) := by decide +kernel
theorem dX1_firstOnRim_19 : decode cX1_firstOnRim 19 = .ok (.if_icmp .eq 5, 3) := by decide +kernel
theorem dX1_firstOnRim_22 : decode cX1_firstOnRim 22 = .ok (.iload_n 1, 1) := by decide +kernel
theorem dX1_firstOnRim_23 : decode cX1_firstOnRim 23 = .ok (.ireturn, 1) := by decide +kernel
theorem dX1_firstOnRim_24 : decode cX1_firstOnRim 24 = .ok (.iinc 1 1, 3) := by decide +kernel
theorem dX1_firstOnRim_27 : decode cX1_firstOnRim 27 = .ok (.goto (-25), 3) := by decide +kernel
theorem dX1_firstOnRim_30 : decode cX1_firstOnRim 30 = .ok (.iconst (-1), 1) := by decide +kernel
theorem dX1_firstOnRim_31 : decode cX1_firstOnRim 31 = .ok (.ireturn, 1) := by decide +kernel
set_option maxRecDepth 20000 in
theorem ggX1_nextOnRim_X1_sideKey : GoodIn wsX1_nextOnRim wsX1_sideKey := goodIn_r _ [7] (by decide +kernel) (by decide +kernel)
set_option maxRecDepth 20000 in
theorem gX1_nextOnRim_X1_sideKey : GoodIn wsX1_nextOnRim (va_wsS RX1 107 yX1_sideKey wsX1_sideKey) := goodIn_app (goodIn_of _ (by decide +kernel)) ggX1_nextOnRim_X1_sideKey
theorem dX1_nextOnRim_0 : decode cX1_nextOnRim 0 = .ok (.iconst 0, 1) := by decide +kernel
theorem dX1_nextOnRim_1 : decode cX1_nextOnRim 1 = .ok (.istore_n 2, 1) := by decide +kernel
theorem dX1_nextOnRim_2 : decode cX1_nextOnRim 2 = .ok (.iload_n 2, 1) := by decide +kernel
theorem dX1_nextOnRim_3 : decode cX1_nextOnRim 3 = .ok (.aload_n 0, 1) := by decide +kernel
theorem dX1_nextOnRim_4 : decode cX1_nextOnRim 4 = .ok (.getfield 38, 3) := by decide +kernel
theorem dX1_nextOnRim_7 : decode cX1_nextOnRim 7 = .ok (.getfield 48, 3) := by decide +kernel
theorem dX1_nextOnRim_10 : decode cX1_nextOnRim 10 = .ok (.if_icmp .ge 39, 3) := by decide +kernel
theorem dX1_nextOnRim_13 : decode cX1_nextOnRim 13 = .ok (.aload_n 0, 1) := by decide +kernel
theorem dX1_nextOnRim_14 : decode cX1_nextOnRim 14 = .ok (.getfield 25, 3) := by decide +kernel
theorem dX1_nextOnRim_17 : decode cX1_nextOnRim 17 = .ok (.iload_n 1, 1) := by decide +kernel
theorem dX1_nextOnRim_18 : decode cX1_nextOnRim 18 = .ok (.iload_n 2, 1) := by decide +kernel
theorem dX1_nextOnRim_19 : decode cX1_nextOnRim 19 = .ok (.invokestatic 107, 3) := by decide +kernel
theorem dX1_nextOnRim_22 : decode cX1_nextOnRim 22 = .ok (.iaload, 1) := by decide +kernel
theorem dX1_nextOnRim_23 : decode cX1_nextOnRim 23 = .ok (.iconst (-1), 1) := by decide +kernel
theorem dX1_nextOnRim_24 : decode cX1_nextOnRim 24 = .ok (.if_icmp .eq 19, 3) := by decide +kernel
theorem dX1_nextOnRim_27 : decode cX1_nextOnRim 27 = .ok (.aload_n 0, 1) := by decide +kernel
theorem dX1_nextOnRim_28 : decode cX1_nextOnRim 28 = .ok (.getfield 25, 3) := by decide +kernel
theorem dX1_nextOnRim_31 : decode cX1_nextOnRim 31 = .ok (.iload_n 2, 1) := by decide +kernel
theorem dX1_nextOnRim_32 : decode cX1_nextOnRim 32 = .ok (.iload_n 1, 1) := by decide +kernel
theorem dX1_nextOnRim_33 : decode cX1_nextOnRim 33 = .ok (.invokestatic 107, 3) := by decide +kernel
theorem dX1_nextOnRim_36 : decode cX1_nextOnRim 36 = .ok (.iaload, 1) := by decide +kernel
theorem dX1_nextOnRim_37 : decode cX1_nextOnRim 37 = .ok (.iconst (-1), 1) := by decide +kernel
theorem dX1_nextOnRim_38 : decode cX1_nextOnRim 38 = .ok (.if_icmp .ne 5, 3) := by decide +kernel
theorem dX1_nextOnRim_41 : decode cX1_nextOnRim 41 = .ok (.iload_n 2, 1) := by decide +kernel
theorem dX1_nextOnRim_42 : decode cX1_nextOnRim 42 = .ok (.ireturn, 1) := by decide +kernel
theorem dX1_nextOnRim_43 : decode cX1_nextOnRim 43 = .ok (.iinc 2 1, 3) := by decide +kernel
theorem dX1_nextOnRim_46 : decode cX1_nextOnRim 46 = .ok (.goto (-44), 3) := by decide +kernel
theorem dX1_nextOnRim_49 : decode cX1_nextOnRim 49 = .ok (.iconst (-1), 1) := by decide +kernel
theorem dX1_nextOnRim_50 : decode cX1_nextOnRim 50 = .ok (.ireturn, 1) := by decide +kernel
theorem dX1_sideCount_0 : decode cX1_sideCount 0 = .ok (.aload_n 0, 1) := by decide +kernel
theorem dX1_sideCount_1 : decode cX1_sideCount 1 = .ok (.getfield 22, 3) := by decide +kernel
theorem dX1_sideCount_4 : decode cX1_sideCount 4 = .ok (.iload_n 1, 1) := by decide +kernel
theorem dX1_sideCount_5 : decode cX1_sideCount 5 = .ok (.iconst 1, 1) := by decide +kernel
theorem dX1_sideCount_6 : decode cX1_sideCount 6 = .ok (.iadd, 1) := by decide +kernel
theorem dX1_sideCount_7 : decode cX1_sideCount 7 = .ok (.iaload, 1) := by decide +kernel
theorem dX1_sideCount_8 : decode cX1_sideCount 8 = .ok (.aload_n 0, 1) := by decide +kernel
theorem dX1_sideCount_9 : decode cX1_sideCount 9 = .ok (.getfield 22, 3) := by decide +kernel
theorem dX1_sideCount_12 : decode cX1_sideCount 12 = .ok (.iload_n 1, 1) := by decide +kernel
theorem dX1_sideCount_13 : decode cX1_sideCount 13 = .ok (.iaload, 1) := by decide +kernel
theorem dX1_sideCount_14 : decode cX1_sideCount 14 = .ok (.isub, 1) := by decide +kernel
theorem dX1_sideCount_15 : decode cX1_sideCount 15 = .ok (.ireturn, 1) := by decide +kernel
theorem dX1_siteOf_0 : decode cX1_siteOf 0 = .ok (.aload_n 0, 1) := by decide +kernel
theorem dX1_siteOf_1 : decode cX1_siteOf 1 = .ok (.getfield 18, 3) := by decide +kernel
theorem dX1_siteOf_4 : decode cX1_siteOf 4 = .ok (.aload_n 0, 1) := by decide +kernel
theorem dX1_siteOf_5 : decode cX1_siteOf 5 = .ok (.getfield 22, 3) := by decide +kernel
theorem dX1_siteOf_8 : decode cX1_siteOf 8 = .ok (.iload_n 1, 1) := by decide +kernel
theorem dX1_siteOf_9 : decode cX1_siteOf 9 = .ok (.iaload, 1) := by decide +kernel
theorem dX1_siteOf_10 : decode cX1_siteOf 10 = .ok (.iload_n 2, 1) := by decide +kernel
theorem dX1_siteOf_11 : decode cX1_siteOf 11 = .ok (.iadd, 1) := by decide +kernel
theorem dX1_siteOf_12 : decode cX1_siteOf 12 = .ok (.iaload, 1) := by decide +kernel
theorem dX1_siteOf_13 : decode cX1_siteOf 13 = .ok (.ireturn, 1) := by decide +kernel
set_option maxRecDepth 20000 in
theorem ggX1_siteAfter_X1_sideCount : GoodIn wsX1_siteAfter wsX1_sideCount := goodIn_r _ [5, 6, 12, 13, 14, 15, 16, 17, 18, 19] (by decide +kernel) (by decide +kernel)
set_option maxRecDepth 20000 in
theorem gX1_siteAfter_X1_sideCount : GoodIn wsX1_siteAfter (wsV RX1 96 RX1 yX1_sideCount wsX1_sideCount) := goodIn_app (goodIn_of _ (by decide +kernel)) ggX1_siteAfter_X1_sideCount
set_option maxRecDepth 20000 in
theorem ggX1_siteAfter_X1_siteOf : GoodIn wsX1_siteAfter wsX1_siteOf := goodIn_r _ [10, 11, 6, 12, 13, 14, 15, 16, 17, 18, 19] (by decide +kernel) (by decide +kernel)
set_option maxRecDepth 20000 in
theorem gX1_siteAfter_X1_siteOf : GoodIn wsX1_siteAfter (wsV RX1 100 RX1 yX1_siteOf wsX1_siteOf) := goodIn_app (goodIn_of _ (by decide +kernel)) ggX1_siteAfter_X1_siteOf
theorem dX1_siteAfter_0 : decode cX1_siteAfter 0 = .ok (.aload_n 0, 1) := by decide +kernel
theorem dX1_siteAfter_1 : decode cX1_siteAfter 1 = .ok (.iload_n 1, 1) := by decide +kernel
theorem dX1_siteAfter_2 : decode cX1_siteAfter 2 = .ok (.iload_n 2, 1) := by decide +kernel
theorem dX1_siteAfter_3 : decode cX1_siteAfter 3 = .ok (.iconst 1, 1) := by decide +kernel
theorem dX1_siteAfter_4 : decode cX1_siteAfter 4 = .ok (.iadd, 1) := by decide +kernel
theorem dX1_siteAfter_5 : decode cX1_siteAfter 5 = .ok (.aload_n 0, 1) := by decide +kernel
theorem dX1_siteAfter_6 : decode cX1_siteAfter 6 = .ok (.iload_n 1, 1) := by decide +kernel
theorem dX1_siteAfter_7 : decode cX1_siteAfter 7 = .ok (.invokevirtual 96, 3) := by decide +kernel
theorem dX1_siteAfter_10 : decode cX1_siteAfter 10 = .ok (.if_icmp .ge 9, 3) := by decide +kernel
theorem dX1_siteAfter_13 : decode cX1_siteAfter 13 = .ok (.iload_n 2, 1) := by decide +kernel
theorem dX1_siteAfter_14 : decode cX1_siteAfter 14 = .ok (.iconst 1, 1) := by decide +kernel
theorem dX1_siteAfter_15 : decode cX1_siteAfter 15 = .ok (.iadd, 1) := by decide +kernel
theorem dX1_siteAfter_16 : decode cX1_siteAfter 16 = .ok (.goto 4, 3) := by decide +kernel
theorem dX1_siteAfter_19 : decode cX1_siteAfter 19 = .ok (.iconst 0, 1) := by decide +kernel
theorem dX1_siteAfter_20 : decode cX1_siteAfter 20 = .ok (.invokevirtual 100, 3) := by decide +kernel
theorem dX1_siteAfter_23 : decode cX1_siteAfter 23 = .ok (.ireturn, 1) := by decide +kernel
set_option maxRecDepth 20000 in
theorem ggX1_across_X1_siteAfter : GoodIn wsX1_across wsX1_siteAfter := goodIn_r _ [6, 7, 8, 9, 5, 10, 11, 12, 13, 14, 15, 16, 20, 21, 22, 23, 24, 25, 26, 27] (by decide +kernel) (by decide +kernel)
set_option maxRecDepth 20000 in
theorem gX1_across_X1_siteAfter : GoodIn wsX1_across (wsV RX1 104 RX1 yX1_siteAfter wsX1_siteAfter) := goodIn_app (goodIn_of _ (by decide +kernel)) ggX1_across_X1_siteAfter
set_option maxRecDepth 20000 in
theorem ggX1_across_X1_siteOf : GoodIn wsX1_across wsX1_siteOf := goodIn_r _ [15, 16, 11, 20, 21, 22, 23, 24, 25, 26, 27] (by decide +kernel) (by decide +kernel)
set_option maxRecDepth 20000 in
theorem gX1_across_X1_siteOf : GoodIn wsX1_across (wsV RX1 100 RX1 yX1_siteOf wsX1_siteOf) := goodIn_app (goodIn_of _ (by decide +kernel)) ggX1_across_X1_siteOf
set_option maxRecDepth 20000 in
theorem ggX1_across_X1_sideKey : GoodIn wsX1_across wsX1_sideKey := goodIn_r _ [19] (by decide +kernel) (by decide +kernel)
set_option maxRecDepth 20000 in
theorem gX1_across_X1_sideKey : GoodIn wsX1_across (va_wsS RX1 107 yX1_sideKey wsX1_sideKey) := goodIn_app (goodIn_of _ (by decide +kernel)) ggX1_across_X1_sideKey
theorem dX1_across_0 : decode cX1_across 0 = .ok (.aload_n 0, 1) := by decide +kernel
theorem dX1_across_1 : decode cX1_across 1 = .ok (.getfield 25, 3) := by decide +kernel
theorem dX1_across_4 : decode cX1_across 4 = .ok (.aload_n 0, 1) := by decide +kernel
theorem dX1_across_5 : decode cX1_across 5 = .ok (.iload_n 1, 1) := by decide +kernel
theorem dX1_across_6 : decode cX1_across 6 = .ok (.iload_n 2, 1) := by decide +kernel
theorem dX1_across_7 : decode cX1_across 7 = .ok (.invokevirtual 104, 3) := by decide +kernel
theorem dX1_across_10 : decode cX1_across 10 = .ok (.aload_n 0, 1) := by decide +kernel
theorem dX1_across_11 : decode cX1_across 11 = .ok (.iload_n 1, 1) := by decide +kernel
theorem dX1_across_12 : decode cX1_across 12 = .ok (.iload_n 2, 1) := by decide +kernel
theorem dX1_across_13 : decode cX1_across 13 = .ok (.invokevirtual 100, 3) := by decide +kernel
theorem dX1_across_16 : decode cX1_across 16 = .ok (.invokestatic 107, 3) := by decide +kernel
theorem dX1_across_19 : decode cX1_across 19 = .ok (.iaload, 1) := by decide +kernel
theorem dX1_across_20 : decode cX1_across 20 = .ok (.ireturn, 1) := by decide +kernel
set_option maxRecDepth 20000 in
theorem ggX1_circleOf_X1_siteOf : GoodIn wsX1_circleOf wsX1_siteOf := goodIn_r _ [7, 8, 9, 23, 24, 25, 26, 27, 28, 29, 30] (by decide +kernel) (by decide +kernel)
set_option maxRecDepth 20000 in
theorem gX1_circleOf_X1_siteOf : GoodIn wsX1_circleOf (wsV RX1 100 RX1 yX1_siteOf wsX1_siteOf) := goodIn_app (goodIn_of _ (by decide +kernel)) ggX1_circleOf_X1_siteOf
set_option maxRecDepth 20000 in
theorem ggX1_circleOf_X0_layThrough : GoodIn wsX1_circleOf wsX0_layThrough := goodIn_r _ [14, 15, 16, 17, 18, 19, 20, 21, 22, 31, 32, 33, 34, 35, 36, 37, 38] (by decide +kernel) (by decide +kernel)
set_option maxRecDepth 20000 in
theorem gX1_circleOf_X0_layThrough : GoodIn wsX1_circleOf (wsV RX1 75 RX0 yX0_layThrough wsX0_layThrough) := goodIn_app (goodIn_of _ (by decide +kernel)) ggX1_circleOf_X0_layThrough
theorem dX1_circleOf_0 : decode cX1_circleOf 0 = .ok (.aload_n 0, 1) := by decide +kernel
theorem dX1_circleOf_1 : decode cX1_circleOf 1 = .ok (.getfield 12, 3) := by decide +kernel
theorem dX1_circleOf_4 : decode cX1_circleOf 4 = .ok (.aload_n 0, 1) := by decide +kernel
theorem dX1_circleOf_5 : decode cX1_circleOf 5 = .ok (.getfield 38, 3) := by decide +kernel
theorem dX1_circleOf_8 : decode cX1_circleOf 8 = .ok (.aload_n 0, 1) := by decide +kernel
theorem dX1_circleOf_9 : decode cX1_circleOf 9 = .ok (.iload_n 1, 1) := by decide +kernel
theorem dX1_circleOf_10 : decode cX1_circleOf 10 = .ok (.iconst 0, 1) := by decide +kernel
theorem dX1_circleOf_11 : decode cX1_circleOf 11 = .ok (.invokevirtual 100, 3) := by decide +kernel
theorem dX1_circleOf_14 : decode cX1_circleOf 14 = .ok (.aload_n 0, 1) := by decide +kernel
theorem dX1_circleOf_15 : decode cX1_circleOf 15 = .ok (.iload_n 1, 1) := by decide +kernel
theorem dX1_circleOf_16 : decode cX1_circleOf 16 = .ok (.iconst 1, 1) := by decide +kernel
theorem dX1_circleOf_17 : decode cX1_circleOf 17 = .ok (.invokevirtual 100, 3) := by decide +kernel
theorem dX1_circleOf_20 : decode cX1_circleOf 20 = .ok (.aload_n 0, 1) := by decide +kernel
theorem dX1_circleOf_21 : decode cX1_circleOf 21 = .ok (.iload_n 1, 1) := by decide +kernel
theorem dX1_circleOf_22 : decode cX1_circleOf 22 = .ok (.iconst 2, 1) := by decide +kernel
theorem dX1_circleOf_23 : decode cX1_circleOf 23 = .ok (.invokevirtual 100, 3) := by decide +kernel
theorem dX1_circleOf_26 : decode cX1_circleOf 26 = .ok (.invokevirtual 75, 3) := by decide +kernel
theorem dX1_circleOf_29 : decode cX1_circleOf 29 = .ok (.aload_n 0, 1) := by decide +kernel
theorem dX1_circleOf_30 : decode cX1_circleOf 30 = .ok (.getfield 12, 3) := by decide +kernel
theorem dX1_circleOf_33 : decode cX1_circleOf 33 = .ok (.areturn, 1) := by decide +kernel
set_option maxRecDepth 20000 in
theorem ggX1_firstWith_X1_holds : GoodIn wsX1_firstWith wsX1_holds := goodIn_r _ [6, 7, 8, 9, 10, 5, 11, 12, 13, 14, 15, 16, 17, 18, 19, 20, 21, 22, 23, 24, 25, 26, 27, 28, 29, 30, 31, 32, 33, 34, 35, 36, 37, 38, 39] (by decide +kernel) (by decide +kernel)
set_option maxRecDepth 20000 in
theorem gX1_firstWith_X1_holds : GoodIn wsX1_firstWith (wsV RX1 117 RX1 yX1_holds wsX1_holds) := goodIn_app (goodIn_of _ (by decide +kernel)) ggX1_firstWith_X1_holds
theorem dX1_firstWith_0 : decode cX1_firstWith 0 = .ok (.iconst 0, 1) := by decide +kernel
theorem dX1_firstWith_1 : decode cX1_firstWith 1 = .ok (.istore_n 3, 1) := by decide +kernel
theorem dX1_firstWith_2 : decode cX1_firstWith 2 = .ok (.iload_n 3, 1) := by decide +kernel
theorem dX1_firstWith_3 : decode cX1_firstWith 3 = .ok (.aload_n 0, 1) := by decide +kernel
theorem dX1_firstWith_4 : decode cX1_firstWith 4 = .ok (.getfield 28, 3) := by decide +kernel
theorem dX1_firstWith_7 : decode cX1_firstWith 7 = .ok (.if_icmp .ge 21, 3) := by decide +kernel
theorem dX1_firstWith_10 : decode cX1_firstWith 10 = .ok (.aload_n 0, 1) := by decide +kernel
theorem dX1_firstWith_11 : decode cX1_firstWith 11 = .ok (.iload_n 3, 1) := by decide +kernel
theorem dX1_firstWith_12 : decode cX1_firstWith 12 = .ok (.iload_n 1, 1) := by decide +kernel
theorem dX1_firstWith_13 : decode cX1_firstWith 13 = .ok (.iload_n 2, 1) := by decide +kernel
theorem dX1_firstWith_14 : decode cX1_firstWith 14 = .ok (.invokevirtual 117, 3) := by decide +kernel
theorem dX1_firstWith_17 : decode cX1_firstWith 17 = .ok (.ifCond .eq 5, 3) := by decide +kernel
theorem dX1_firstWith_20 : decode cX1_firstWith 20 = .ok (.iload_n 3, 1) := by decide +kernel
theorem dX1_firstWith_21 : decode cX1_firstWith 21 = .ok (.ireturn, 1) := by decide +kernel
theorem dX1_firstWith_22 : decode cX1_firstWith 22 = .ok (.iinc 3 1, 3) := by decide +kernel
theorem dX1_firstWith_25 : decode cX1_firstWith 25 = .ok (.goto (-23), 3) := by decide +kernel
theorem dX1_firstWith_28 : decode cX1_firstWith 28 = .ok (.iconst (-1), 1) := by decide +kernel
theorem dX1_firstWith_29 : decode cX1_firstWith 29 = .ok (.ireturn, 1) := by decide +kernel
set_option maxRecDepth 20000 in
theorem ggX1_holds_X1_sideCount : GoodIn wsX1_holds wsX1_sideCount := goodIn_r _ [6, 7, 24, 25, 26, 27, 28, 29, 30, 31] (by decide +kernel) (by decide +kernel)
set_option maxRecDepth 20000 in
theorem gX1_holds_X1_sideCount : GoodIn wsX1_holds (wsV RX1 96 RX1 yX1_sideCount wsX1_sideCount) := goodIn_app (goodIn_of _ (by decide +kernel)) ggX1_holds_X1_sideCount
set_option maxRecDepth 20000 in
theorem ggX1_holds_X1_siteOf : GoodIn wsX1_holds wsX1_siteOf := goodIn_r _ [11, 12, 7, 24, 25, 26, 27, 28, 29, 30, 31] (by decide +kernel) (by decide +kernel)
set_option maxRecDepth 20000 in
theorem gX1_holds_X1_siteOf : GoodIn wsX1_holds (wsV RX1 100 RX1 yX1_siteOf wsX1_siteOf) := goodIn_app (goodIn_of _ (by decide +kernel)) ggX1_holds_X1_siteOf
set_option maxRecDepth 20000 in
theorem ggX1_holds_X1_siteAfter : GoodIn wsX1_holds wsX1_siteAfter := goodIn_r _ [16, 2, 3, 4, 5, 6, 7, 8, 9, 10, 11, 12, 24, 25, 26, 27, 28, 29, 30, 31] (by decide +kernel) (by decide +kernel)
set_option maxRecDepth 20000 in
theorem gX1_holds_X1_siteAfter : GoodIn wsX1_holds (wsV RX1 104 RX1 yX1_siteAfter wsX1_siteAfter) := goodIn_app (goodIn_of _ (by decide +kernel)) ggX1_holds_X1_siteAfter
set_option maxRecDepth 20000 in
theorem ggX1_holds_X2_turn : GoodIn wsX1_holds wsX2_turn := goodIn_r _ [21, 22, 23, 32, 33, 34] (by decide +kernel) (by decide +kernel)
set_option maxRecDepth 20000 in
theorem gX1_holds_X2_turn : GoodIn wsX1_holds (wsV RX1 121 RX2 yX2_turn wsX2_turn) := goodIn_app (goodIn_of _ (by decide +kernel)) ggX1_holds_X2_turn
theorem dX1_holds_0 : decode cX1_holds 0 = .ok (.aload_n 0, 1) := by decide +kernel
theorem dX1_holds_1 : decode cX1_holds 1 = .ok (.iload_n 1, 1) := by decide +kernel
theorem dX1_holds_2 : decode cX1_holds 2 = .ok (.invokevirtual 96, 3) := by decide +kernel
theorem dX1_holds_5 : decode cX1_holds 5 = .ok (.istore 4, 2) := by decide +kernel
theorem dX1_holds_7 : decode cX1_holds 7 = .ok (.iconst 0, 1) := by decide +kernel
theorem dX1_holds_8 : decode cX1_holds 8 = .ok (.istore 5, 2) := by decide +kernel
theorem dX1_holds_10 : decode cX1_holds 10 = .ok (.iload 5, 2) := by decide +kernel
theorem dX1_holds_12 : decode cX1_holds 12 = .ok (.iload 4, 2) := by decide +kernel
theorem dX1_holds_14 : decode cX1_holds 14 = .ok (.if_icmp .ge 37, 3) := by decide +kernel
theorem dX1_holds_17 : decode cX1_holds 17 = .ok (.aload_n 0, 1) := by decide +kernel
theorem dX1_holds_18 : decode cX1_holds 18 = .ok (.getfield 38, 3) := by decide +kernel
theorem dX1_holds_21 : decode cX1_holds 21 = .ok (.aload_n 0, 1) := by decide +kernel
theorem dX1_holds_22 : decode cX1_holds 22 = .ok (.iload_n 1, 1) := by decide +kernel
theorem dX1_holds_23 : decode cX1_holds 23 = .ok (.iload 5, 2) := by decide +kernel
theorem dX1_holds_25 : decode cX1_holds 25 = .ok (.invokevirtual 100, 3) := by decide +kernel
theorem dX1_holds_28 : decode cX1_holds 28 = .ok (.aload_n 0, 1) := by decide +kernel
theorem dX1_holds_29 : decode cX1_holds 29 = .ok (.iload_n 1, 1) := by decide +kernel
theorem dX1_holds_30 : decode cX1_holds 30 = .ok (.iload 5, 2) := by decide +kernel
theorem dX1_holds_32 : decode cX1_holds 32 = .ok (.invokevirtual 104, 3) := by decide +kernel
theorem dX1_holds_35 : decode cX1_holds 35 = .ok (.iload_n 2, 1) := by decide +kernel
theorem dX1_holds_36 : decode cX1_holds 36 = .ok (.iload_n 3, 1) := by decide +kernel
theorem dX1_holds_37 : decode cX1_holds 37 = .ok (.invokevirtual 121, 3) := by decide +kernel
theorem dX1_holds_40 : decode cX1_holds 40 = .ok (.ifCond .ge 5, 3) := by decide +kernel
theorem dX1_holds_43 : decode cX1_holds 43 = .ok (.iconst 0, 1) := by decide +kernel
theorem dX1_holds_44 : decode cX1_holds 44 = .ok (.ireturn, 1) := by decide +kernel
theorem dX1_holds_45 : decode cX1_holds 45 = .ok (.iinc 5 1, 3) := by decide +kernel
theorem dX1_holds_48 : decode cX1_holds 48 = .ok (.goto (-38), 3) := by decide +kernel
theorem dX1_holds_51 : decode cX1_holds 51 = .ok (.iconst 1, 1) := by decide +kernel
theorem dX1_holds_52 : decode cX1_holds 52 = .ok (.ireturn, 1) := by decide +kernel
theorem dX2_init_0 : decode cX2_init 0 = .ok (.aload_n 0, 1) := by decide +kernel
theorem dX2_init_1 : decode cX2_init 1 = .ok (.invokespecial 3, 3) := by decide +kernel
theorem dX2_init_4 : decode cX2_init 4 = .ok (.aload_n 0, 1) := by decide +kernel
theorem dX2_init_5 : decode cX2_init 5 = .ok (.bipush 20, 2) := by decide +kernel
theorem dX2_init_7 : decode cX2_init 7 = .ok (.newarray .int, 2) := by decide +kernel
theorem dX2_init_9 : decode cX2_init 9 = .ok (.putfield 9, 3) := by decide +kernel
theorem dX2_init_12 : decode cX2_init 12 = .ok (.aload_n 0, 1) := by decide +kernel
theorem dX2_init_13 : decode cX2_init 13 = .ok (.bipush 20, 2) := by decide +kernel
theorem dX2_init_15 : decode cX2_init 15 = .ok (.newarray .int, 2) := by decide +kernel
theorem dX2_init_17 : decode cX2_init 17 = .ok (.putfield 15, 3) := by decide +kernel
theorem dX2_init_20 : decode cX2_init 20 = .ok (.aload_n 0, 1) := by decide +kernel
theorem dX2_init_21 : decode cX2_init 21 = .ok (.iconst 0, 1) := by decide +kernel
theorem dX2_init_22 : decode cX2_init 22 = .ok (.putfield 18, 3) := by decide +kernel
theorem dX2_init_25 : decode cX2_init 25 = .ok (.return_, 1) := by decide +kernel
set_option maxRecDepth 20000 in
theorem ggX2_append_X2_put : GoodIn wsX2_append wsX2_put := goodIn_r _ [6, 7, 8, 9, 10, 11] (by decide +kernel) (by decide +kernel)
set_option maxRecDepth 20000 in
theorem gX2_append_X2_put : GoodIn wsX2_append (wsV RX2 22 RX2 yX2_put wsX2_put) := goodIn_app (goodIn_of _ (by decide +kernel)) ggX2_append_X2_put
theorem dX2_append_0 : decode cX2_append 0 = .ok (.aload_n 0, 1) := by decide +kernel
theorem dX2_append_1 : decode cX2_append 1 = .ok (.getfield 18, 3) := by decide +kernel
theorem dX2_append_4 : decode cX2_append 4 = .ok (.istore_n 3, 1) := by decide +kernel
theorem dX2_append_5 : decode cX2_append 5 = .ok (.aload_n 0, 1) := by decide +kernel
theorem dX2_append_6 : decode cX2_append 6 = .ok (.iload_n 3, 1) := by decide +kernel
theorem dX2_append_7 : decode cX2_append 7 = .ok (.iload_n 1, 1) := by decide +kernel
theorem dX2_append_8 : decode cX2_append 8 = .ok (.iload_n 2, 1) := by decide +kernel
theorem dX2_append_9 : decode cX2_append 9 = .ok (.invokevirtual 22, 3) := by decide +kernel
theorem dX2_append_12 : decode cX2_append 12 = .ok (.aload_n 0, 1) := by decide +kernel
theorem dX2_append_13 : decode cX2_append 13 = .ok (.dup, 1) := by decide +kernel
theorem dX2_append_14 : decode cX2_append 14 = .ok (.getfield 18, 3) := by decide +kernel
theorem dX2_append_17 : decode cX2_append 17 = .ok (.iconst 1, 1) := by decide +kernel
theorem dX2_append_18 : decode cX2_append 18 = .ok (.iadd, 1) := by decide +kernel
theorem dX2_append_19 : decode cX2_append 19 = .ok (.putfield 18, 3) := by decide +kernel
theorem dX2_append_22 : decode cX2_append 22 = .ok (.iload_n 3, 1) := by decide +kernel
theorem dX2_append_23 : decode cX2_append 23 = .ok (.ireturn, 1) := by decide +kernel
theorem dX2_put_0 : decode cX2_put 0 = .ok (.aload_n 0, 1) := by decide +kernel
theorem dX2_put_1 : decode cX2_put 1 = .ok (.getfield 9, 3) := by decide +kernel
theorem dX2_put_4 : decode cX2_put 4 = .ok (.iload_n 1, 1) := by decide +kernel
theorem dX2_put_5 : decode cX2_put 5 = .ok (.iload_n 2, 1) := by decide +kernel
theorem dX2_put_6 : decode cX2_put 6 = .ok (.iastore, 1) := by decide +kernel
theorem dX2_put_7 : decode cX2_put 7 = .ok (.aload_n 0, 1) := by decide +kernel
theorem dX2_put_8 : decode cX2_put 8 = .ok (.getfield 15, 3) := by decide +kernel
theorem dX2_put_11 : decode cX2_put 11 = .ok (.iload_n 1, 1) := by decide +kernel
theorem dX2_put_12 : decode cX2_put 12 = .ok (.iload_n 3, 1) := by decide +kernel
theorem dX2_put_13 : decode cX2_put 13 = .ok (.iastore, 1) := by decide +kernel
theorem dX2_put_14 : decode cX2_put 14 = .ok (.return_, 1) := by decide +kernel
set_option maxRecDepth 20000 in
theorem ggX2_drop_X2_put : GoodIn wsX2_drop wsX2_put := goodIn_r _ [8, 2, 3, 9, 10, 11] (by decide +kernel) (by decide +kernel)
set_option maxRecDepth 20000 in
theorem gX2_drop_X2_put : GoodIn wsX2_drop (wsV RX2 22 RX2 yX2_put wsX2_put) := goodIn_app (goodIn_of _ (by decide +kernel)) ggX2_drop_X2_put
theorem dX2_drop_0 : decode cX2_drop 0 = .ok (.iload_n 1, 1) := by decide +kernel
theorem dX2_drop_1 : decode cX2_drop 1 = .ok (.iconst 1, 1) := by decide +kernel
theorem dX2_drop_2 : decode cX2_drop 2 = .ok (.iadd, 1) := by decide +kernel
theorem dX2_drop_3 : decode cX2_drop 3 = .ok (.istore_n 2, 1) := by decide +kernel
theorem dX2_drop_4 : decode cX2_drop 4 = .ok (.iload_n 2, 1) := by decide +kernel
theorem dX2_drop_5 : decode cX2_drop 5 = .ok (.aload_n 0, 1) := by decide +kernel
theorem dX2_drop_6 : decode cX2_drop 6 = .ok (.getfield 18, 3) := by decide +kernel
theorem dX2_drop_9 : decode cX2_drop 9 = .ok (.if_icmp .ge 28, 3) := by decide +kernel
theorem dX2_drop_12 : decode cX2_drop 12 = .ok (.aload_n 0, 1) := by decide +kernel
theorem dX2_drop_13 : decode cX2_drop 13 = .ok (.iload_n 2, 1) := by decide +kernel
theorem dX2_drop_14 : decode cX2_drop 14 = .ok (.iconst 1, 1) := by decide +kernel
theorem dX2_drop_15 : decode cX2_drop 15 = .ok (.isub, 1) := by decide +kernel
theorem dX2_drop_16 : decode cX2_drop 16 = .ok (.aload_n 0, 1) := by decide +kernel
theorem dX2_drop_17 : decode cX2_drop 17 = .ok (.getfield 9, 3) := by decide +kernel
theorem dX2_drop_20 : decode cX2_drop 20 = .ok (.iload_n 2, 1) := by decide +kernel
theorem dX2_drop_21 : decode cX2_drop 21 = .ok (.iaload, 1) := by decide +kernel
theorem dX2_drop_22 : decode cX2_drop 22 = .ok (.aload_n 0, 1) := by decide +kernel
theorem dX2_drop_23 : decode cX2_drop 23 = .ok (.getfield 15, 3) := by decide +kernel
theorem dX2_drop_26 : decode cX2_drop 26 = .ok (.iload_n 2, 1) := by decide +kernel
theorem dX2_drop_27 : decode cX2_drop 27 = .ok (.iaload, 1) := by decide +kernel
theorem dX2_drop_28 : decode cX2_drop 28 = .ok (.invokevirtual 22, 3) := by decide +kernel
theorem dX2_drop_31 : decode cX2_drop 31 = .ok (.iinc 2 1, 3) := by decide +kernel
theorem dX2_drop_34 : decode cX2_drop 34 = .ok (.goto (-30), 3) := by decide +kernel
theorem dX2_drop_37 : decode cX2_drop 37 = .ok (.aload_n 0, 1) := by decide +kernel
theorem dX2_drop_38 : decode cX2_drop 38 = .ok (.dup, 1) := by decide +kernel
theorem dX2_drop_39 : decode cX2_drop 39 = .ok (.getfield 18, 3) := by decide +kernel
theorem dX2_drop_42 : decode cX2_drop 42 = .ok (.iconst 1, 1) := by decide +kernel
theorem dX2_drop_43 : decode cX2_drop 43 = .ok (.isub, 1) := by decide +kernel
theorem dX2_drop_44 : decode cX2_drop 44 = .ok (.putfield 18, 3) := by decide +kernel
theorem dX2_drop_47 : decode cX2_drop 47 = .ok (.return_, 1) := by decide +kernel
theorem dX2_dropAll_0 : decode cX2_dropAll 0 = .ok (.aload_n 0, 1) := by decide +kernel
theorem dX2_dropAll_1 : decode cX2_dropAll 1 = .ok (.iconst 0, 1) := by decide +kernel
theorem dX2_dropAll_2 : decode cX2_dropAll 2 = .ok (.putfield 18, 3) := by decide +kernel
theorem dX2_dropAll_5 : decode cX2_dropAll 5 = .ok (.return_, 1) := by decide +kernel
theorem dX2_numberAt_0 : decode cX2_numberAt 0 = .ok (.iconst 0, 1) := by decide +kernel
theorem dX2_numberAt_1 : decode cX2_numberAt 1 = .ok (.istore_n 3, 1) := by decide +kernel
theorem dX2_numberAt_2 : decode cX2_numberAt 2 = .ok (.iload_n 3, 1) := by decide +kernel
theorem dX2_numberAt_3 : decode cX2_numberAt 3 = .ok (.aload_n 0, 1) := by decide +kernel
theorem dX2_numberAt_4 : decode cX2_numberAt 4 = .ok (.getfield 18, 3) := by decide +kernel
theorem dX2_numberAt_7 : decode cX2_numberAt 7 = .ok (.if_icmp .ge 31, 3) := by decide +kernel
theorem dX2_numberAt_10 : decode cX2_numberAt 10 = .ok (.aload_n 0, 1) := by decide +kernel
theorem dX2_numberAt_11 : decode cX2_numberAt 11 = .ok (.getfield 9, 3) := by decide +kernel
theorem dX2_numberAt_14 : decode cX2_numberAt 14 = .ok (.iload_n 3, 1) := by decide +kernel
theorem dX2_numberAt_15 : decode cX2_numberAt 15 = .ok (.iaload, 1) := by decide +kernel
theorem dX2_numberAt_16 : decode cX2_numberAt 16 = .ok (.iload_n 1, 1) := by decide +kernel
theorem dX2_numberAt_17 : decode cX2_numberAt 17 = .ok (.if_icmp .ne 15, 3) := by decide +kernel
theorem dX2_numberAt_20 : decode cX2_numberAt 20 = .ok (.aload_n 0, 1) := by decide +kernel
theorem dX2_numberAt_21 : decode cX2_numberAt 21 = .ok (.getfield 15, 3) := by decide +kernel
theorem dX2_numberAt_24 : decode cX2_numberAt 24 = .ok (.iload_n 3, 1) := by decide +kernel
theorem dX2_numberAt_25 : decode cX2_numberAt 25 = .ok (.iaload, 1) := by decide +kernel
theorem dX2_numberAt_26 : decode cX2_numberAt 26 = .ok (.iload_n 2, 1) := by decide +kernel
theorem dX2_numberAt_27 : decode cX2_numberAt 27 = .ok (.if_icmp .ne 5, 3) := by decide +kernel
theorem dX2_numberAt_30 : decode cX2_numberAt 30 = .ok (.iload_n 3, 1) := by decide +kernel
theorem dX2_numberAt_31 : decode cX2_numberAt 31 = .ok (.ireturn, 1) := by decide +kernel
theorem dX2_numberAt_32 : decode cX2_numberAt 32 = .ok (.iinc 3 1, 3) := by decide +kernel
theorem dX2_numberAt_35 : decode cX2_numberAt 35 = .ok (.goto (-33), 3) := by decide +kernel
theorem dX2_numberAt_38 : decode cX2_numberAt 38 = .ok (.iconst (-1), 1) := by decide +kernel
theorem dX2_numberAt_39 : decode cX2_numberAt 39 = .ok (.ireturn, 1) := by decide +kernel
set_option maxRecDepth 20000 in
theorem ggX2_closestTo_X2_squareTo : GoodIn wsX2_closestTo wsX2_squareTo := goodIn_r _ [6, 7, 8, 9, 10, 11] (by decide +kernel) (by decide +kernel)
set_option maxRecDepth 20000 in
theorem gX2_closestTo_X2_squareTo : GoodIn wsX2_closestTo (wsV RX2 26 RX2 yX2_squareTo wsX2_squareTo) := goodIn_app (goodIn_of _ (by decide +kernel)) ggX2_closestTo_X2_squareTo
theorem dX2_closestTo_0 : decode cX2_closestTo 0 = .ok (.iconst 0, 1) := by decide +kernel
theorem dX2_closestTo_1 : decode cX2_closestTo 1 = .ok (.istore_n 3, 1) := by decide +kernel
theorem dX2_closestTo_2 : decode cX2_closestTo 2 = .ok (.iconst 1, 1) := by decide +kernel
theorem dX2_closestTo_3 : decode cX2_closestTo 3 = .ok (.istore 4, 2) := by decide +kernel
theorem dX2_closestTo_5 : decode cX2_closestTo 5 = .ok (.iload 4, 2) := by decide +kernel
theorem dX2_closestTo_7 : decode cX2_closestTo 7 = .ok (.aload_n 0, 1) := by decide +kernel
theorem dX2_closestTo_8 : decode cX2_closestTo 8 = .ok (.getfield 18, 3) := by decide +kernel
theorem dX2_closestTo_11 : decode cX2_closestTo 11 = .ok (.if_icmp .ge 30, 3) := by decide +kernel
theorem dX2_closestTo_14 : decode cX2_closestTo 14 = .ok (.aload_n 0, 1) := by decide +kernel
theorem dX2_closestTo_15 : decode cX2_closestTo 15 = .ok (.iload 4, 2) := by decide +kernel
theorem dX2_closestTo_17 : decode cX2_closestTo 17 = .ok (.iload_n 1, 1) := by decide +kernel
theorem dX2_closestTo_18 : decode cX2_closestTo 18 = .ok (.iload_n 2, 1) := by decide +kernel
theorem dX2_closestTo_19 : decode cX2_closestTo 19 = .ok (.invokevirtual 26, 3) := by decide +kernel
theorem dX2_closestTo_22 : decode cX2_closestTo 22 = .ok (.aload_n 0, 1) := by decide +kernel
theorem dX2_closestTo_23 : decode cX2_closestTo 23 = .ok (.iload_n 3, 1) := by decide +kernel
theorem dX2_closestTo_24 : decode cX2_closestTo 24 = .ok (.iload_n 1, 1) := by decide +kernel
theorem dX2_closestTo_25 : decode cX2_closestTo 25 = .ok (.iload_n 2, 1) := by decide +kernel
theorem dX2_closestTo_26 : decode cX2_closestTo 26 = .ok (.invokevirtual 26, 3) := by decide +kernel
theorem dX2_closestTo_29 : decode cX2_closestTo 29 = .ok (.if_icmp .ge 6, 3) := by decide +kernel
theorem dX2_closestTo_32 : decode cX2_closestTo 32 = .ok (.iload 4, 2) := by decide +kernel
theorem dX2_closestTo_34 : decode cX2_closestTo 34 = .ok (.istore_n 3, 1) := by decide +kernel
theorem dX2_closestTo_35 : decode cX2_closestTo 35 = .ok (.iinc 4 1, 3) := by decide +kernel
theorem dX2_closestTo_38 : decode cX2_closestTo 38 = .ok (.goto (-33), 3) := by decide +kernel
theorem dX2_closestTo_41 : decode cX2_closestTo 41 = .ok (.iload_n 3, 1) := by decide +kernel
theorem dX2_closestTo_42 : decode cX2_closestTo 42 = .ok (.ireturn, 1) := by decide +kernel
theorem dX2_squareTo_0 : decode cX2_squareTo 0 = .ok (.aload_n 0, 1) := by decide +kernel
theorem dX2_squareTo_1 : decode cX2_squareTo 1 = .ok (.getfield 9, 3) := by decide +kernel
theorem dX2_squareTo_4 : decode cX2_squareTo 4 = .ok (.iload_n 1, 1) := by decide +kernel
theorem dX2_squareTo_5 : decode cX2_squareTo 5 = .ok (.iaload, 1) := by decide +kernel
theorem dX2_squareTo_6 : decode cX2_squareTo 6 = .ok (.iload_n 2, 1) := by decide +kernel
theorem dX2_squareTo_7 : decode cX2_squareTo 7 = .ok (.isub, 1) := by decide +kernel
theorem dX2_squareTo_8 : decode cX2_squareTo 8 = .ok (.istore 4, 2) := by decide +kernel
theorem dX2_squareTo_10 : decode cX2_squareTo 10 = .ok (.aload_n 0, 1) := by decide +kernel
theorem dX2_squareTo_11 : decode cX2_squareTo 11 = .ok (.getfield 15, 3) := by decide +kernel
theorem dX2_squareTo_14 : decode cX2_squareTo 14 = .ok (.iload_n 1, 1) := by decide +kernel
theorem dX2_squareTo_15 : decode cX2_squareTo 15 = .ok (.iaload, 1) := by decide +kernel
theorem dX2_squareTo_16 : decode cX2_squareTo 16 = .ok (.iload_n 3, 1) := by decide +kernel
theorem dX2_squareTo_17 : decode cX2_squareTo 17 = .ok (.isub, 1) := by decide +kernel
theorem dX2_squareTo_18 : decode cX2_squareTo 18 = .ok (.istore 5, 2) := by decide +kernel
theorem dX2_squareTo_20 : decode cX2_squareTo 20 = .ok (.iload 4, 2) := by decide +kernel
theorem dX2_squareTo_22 : decode cX2_squareTo 22 = .ok (.iload 4, 2) := by decide +kernel
theorem dX2_squareTo_24 : decode cX2_squareTo 24 = .ok (.imul, 1) := by decide +kernel
theorem dX2_squareTo_25 : decode cX2_squareTo 25 = .ok (.iload 5, 2) := by decide +kernel
theorem dX2_squareTo_27 : decode cX2_squareTo 27 = .ok (.iload 5, 2) := by decide +kernel
theorem dX2_squareTo_29 : decode cX2_squareTo 29 = .ok (.imul, 1) := by decide +kernel
theorem dX2_squareTo_30 : decode cX2_squareTo 30 = .ok (.iadd, 1) := by decide +kernel
theorem dX2_squareTo_31 : decode cX2_squareTo 31 = .ok (.ireturn, 1) := by decide +kernel
theorem dX2_turn_0 : decode cX2_turn 0 = .ok (.aload_n 0, 1) := by decide +kernel
theorem dX2_turn_1 : decode cX2_turn 1 = .ok (.getfield 9, 3) := by decide +kernel
theorem dX2_turn_4 : decode cX2_turn 4 = .ok (.iload_n 2, 1) := by decide +kernel
theorem dX2_turn_5 : decode cX2_turn 5 = .ok (.iaload, 1) := by decide +kernel
theorem dX2_turn_6 : decode cX2_turn 6 = .ok (.aload_n 0, 1) := by decide +kernel
theorem dX2_turn_7 : decode cX2_turn 7 = .ok (.getfield 9, 3) := by decide +kernel
theorem dX2_turn_10 : decode cX2_turn 10 = .ok (.iload_n 1, 1) := by decide +kernel
theorem dX2_turn_11 : decode cX2_turn 11 = .ok (.iaload, 1) := by decide +kernel
theorem dX2_turn_12 : decode cX2_turn 12 = .ok (.isub, 1) := by decide +kernel
theorem dX2_turn_13 : decode cX2_turn 13 = .ok (.iload 4, 2) := by decide +kernel
theorem dX2_turn_15 : decode cX2_turn 15 = .ok (.aload_n 0, 1) := by decide +kernel
theorem dX2_turn_16 : decode cX2_turn 16 = .ok (.getfield 15, 3) := by decide +kernel
theorem dX2_turn_19 : decode cX2_turn 19 = .ok (.iload_n 1, 1) := by decide +kernel
theorem dX2_turn_20 : decode cX2_turn 20 = .ok (.iaload, 1) := by decide +kernel
theorem dX2_turn_21 : decode cX2_turn 21 = .ok (.isub, 1) := by decide +kernel
theorem dX2_turn_22 : decode cX2_turn 22 = .ok (.imul, 1) := by decide +kernel
theorem dX2_turn_23 : decode cX2_turn 23 = .ok (.aload_n 0, 1) := by decide +kernel
theorem dX2_turn_24 : decode cX2_turn 24 = .ok (.getfield 15, 3) := by decide +kernel
theorem dX2_turn_27 : decode cX2_turn 27 = .ok (.iload_n 2, 1) := by decide +kernel
theorem dX2_turn_28 : decode cX2_turn 28 = .ok (.iaload, 1) := by decide +kernel
theorem dX2_turn_29 : decode cX2_turn 29 = .ok (.aload_n 0, 1) := by decide +kernel
theorem dX2_turn_30 : decode cX2_turn 30 = .ok (.getfield 15, 3) := by decide +kernel
theorem dX2_turn_33 : decode cX2_turn 33 = .ok (.iload_n 1, 1) := by decide +kernel
theorem dX2_turn_34 : decode cX2_turn 34 = .ok (.iaload, 1) := by decide +kernel
theorem dX2_turn_35 : decode cX2_turn 35 = .ok (.isub, 1) := by decide +kernel
theorem dX2_turn_36 : decode cX2_turn 36 = .ok (.iload_n 3, 1) := by decide +kernel
theorem dX2_turn_37 : decode cX2_turn 37 = .ok (.aload_n 0, 1) := by decide +kernel
theorem dX2_turn_38 : decode cX2_turn 38 = .ok (.getfield 9, 3) := by decide +kernel
theorem dX2_turn_41 : decode cX2_turn 41 = .ok (.iload_n 1, 1) := by decide +kernel
theorem dX2_turn_42 : decode cX2_turn 42 = .ok (.iaload, 1) := by decide +kernel
theorem dX2_turn_43 : decode cX2_turn 43 = .ok (.isub, 1) := by decide +kernel
theorem dX2_turn_44 : decode cX2_turn 44 = .ok (.imul, 1) := by decide +kernel
theorem dX2_turn_45 : decode cX2_turn 45 = .ok (.isub, 1) := by decide +kernel
theorem dX2_turn_46 : decode cX2_turn 46 = .ok (.ireturn, 1) := by decide +kernel
set_option maxRecDepth 20000 in
theorem ggX2_turn__X2_turn : GoodIn wsX2_turn_ wsX2_turn := goodIn_r _ [7, 1, 2, 8, 9, 10] (by decide +kernel) (by decide +kernel)
set_option maxRecDepth 20000 in
theorem gX2_turn__X2_turn : GoodIn wsX2_turn_ (wsV RX2 30 RX2 yX2_turn wsX2_turn) := goodIn_app (goodIn_of _ (by decide +kernel)) ggX2_turn__X2_turn
theorem dX2_turn__0 : decode cX2_turn_ 0 = .ok (.aload_n 0, 1) := by decide +kernel
theorem dX2_turn__1 : decode cX2_turn_ 1 = .ok (.iload_n 1, 1) := by decide +kernel
theorem dX2_turn__2 : decode cX2_turn_ 2 = .ok (.iload_n 2, 1) := by decide +kernel
theorem dX2_turn__3 : decode cX2_turn_ 3 = .ok (.aload_n 0, 1) := by decide +kernel
theorem dX2_turn__4 : decode cX2_turn_ 4 = .ok (.getfield 9, 3) := by decide +kernel
theorem dX2_turn__7 : decode cX2_turn_ 7 = .ok (.iload_n 3, 1) := by decide +kernel
theorem dX2_turn__8 : decode cX2_turn_ 8 = .ok (.iaload, 1) := by decide +kernel
theorem dX2_turn__9 : decode cX2_turn_ 9 = .ok (.aload_n 0, 1) := by decide +kernel
theorem dX2_turn__10 : decode cX2_turn_ 10 = .ok (.getfield 15, 3) := by decide +kernel
theorem dX2_turn__13 : decode cX2_turn_ 13 = .ok (.iload_n 3, 1) := by decide +kernel
theorem dX2_turn__14 : decode cX2_turn_ 14 = .ok (.iaload, 1) := by decide +kernel
theorem dX2_turn__15 : decode cX2_turn_ 15 = .ok (.invokevirtual 30, 3) := by decide +kernel
theorem dX2_turn__18 : decode cX2_turn_ 18 = .ok (.ireturn, 1) := by decide +kernel
set_option maxRecDepth 20000 in
theorem ggX3_init_X2_init : GoodIn wsX3_init wsX2_init := goodIn_r _ [14, 15, 2, 3, 16, 17, 18, 19, 38, 39, 40] (by decide +kernel) (by decide +kernel)
set_option maxRecDepth 20000 in
theorem gX3_init_X2_init_n11 : GoodIn wsX3_init (wsX2_init) := ggX3_init_X2_init
set_option maxRecDepth 20000 in
theorem ggX3_init_X1_init : GoodIn wsX3_init wsX1_init := goodIn_r _ [22, 23, 2, 3, 24, 25, 26, 27, 16, 28, 29, 30, 31, 32, 33, 34, 35, 36, 37, 52, 53, 54, 55, 56, 44, 45, 46, 47, 48, 49, 50, 51] (by decide +kernel) (by decide +kernel)
set_option maxRecDepth 20000 in
theorem gX3_init_X1_init : GoodIn wsX3_init (wsX1_init) := ggX3_init_X1_init
end
section
theorem dX3_init_0 : decode cX3_init 0 = .ok (.aload_n 0, 1) := by decide +kernel
theorem dX3_init_1 : decode cX3_init 1 = .ok (.invokespecial 3, 3) := by decide +kernel
theorem dX3_init_4 : decode cX3_init 4 = .ok (.aload_n 0, 1) := by decide +kernel
theorem dX3_init_5 : decode cX3_init 5 = .ok (.new 9, 3) := by decide +kernel
theorem dX3_init_8 : decode cX3_init 8 = .ok (.dup, 1) := by decide +kernel
theorem dX3_init_9 : decode cX3_init 9 = .ok (.invokespecial 11, 3) := by decide +kernel
theorem dX3_init_12 : decode cX3_init 12 = .ok (.putfield 12, 3) := by decide +kernel
theorem dX3_init_15 : decode cX3_init 15 = .ok (.aload_n 0, 1) := by decide +kernel
theorem dX3_init_16 : decode cX3_init 16 = .ok (.new 16, 3) := by decide +kernel
theorem dX3_init_19 : decode cX3_init 19 = .ok (.dup, 1) := by decide +kernel
theorem dX3_init_20 : decode cX3_init 20 = .ok (.aload_n 0, 1) := by decide +kernel
theorem dX3_init_21 : decode cX3_init 21 = .ok (.getfield 12, 3) := by decide +kernel
theorem dX3_init_24 : decode cX3_init 24 = .ok (.invokespecial 18, 3) := by decide +kernel
theorem dX3_init_27 : decode cX3_init 27 = .ok (.putfield 21, 3) := by decide +kernel
theorem dX3_init_30 : decode cX3_init 30 = .ok (.aload_n 0, 1) := by decide +kernel
theorem dX3_init_31 : decode cX3_init 31 = .ok (.iconst 0, 1) := by decide +kernel
theorem dX3_init_32 : decode cX3_init 32 = .ok (.putfield 25, 3) := by decide +kernel
theorem dX3_init_35 : decode cX3_init 35 = .ok (.return_, 1) := by decide +kernel
set_option maxRecDepth 20000 in
theorem ggX3_site_X3_requirePlace : GoodIn wsX3_site wsX3_requirePlace := goodIn_ca (goodIn_r _ [11, 1, 2] (by decide +kernel) (by decide +kernel)) (goodIn_sub (fun _ h => List.mem_cons_of_mem _ (List.mem_append_left _ (List.mem_append_right _ h))) (by decide +kernel))
set_option maxRecDepth 20000 in
theorem gX3_site_X3_requirePlace : GoodIn wsX3_site (va_wsS RX3 29 yX3_requirePlace wsX3_requirePlace) := goodIn_app (goodIn_of _ (by decide +kernel)) ggX3_site_X3_requirePlace
set_option maxRecDepth 20000 in
theorem ggX3_site_X2_numberAt : GoodIn wsX3_site wsX2_numberAt := goodIn_r _ [16, 17, 18, 19, 31, 32, 33] (by decide +kernel) (by decide +kernel)
set_option maxRecDepth 20000 in
theorem gX3_site_X2_numberAt : GoodIn wsX3_site (wsV RX3 33 RX2 yX2_numberAt wsX2_numberAt) := goodIn_app (goodIn_of _ (by decide +kernel)) ggX3_site_X2_numberAt
set_option maxRecDepth 20000 in
theorem ggX3_site_X2_append : GoodIn wsX3_site wsX2_append := goodIn_r _ [23, 17, 24, 25, 26, 15, 27, 18, 19, 31, 32, 33] (by decide +kernel) (by decide +kernel)
set_option maxRecDepth 20000 in
theorem gX3_site_X2_append : GoodIn wsX3_site (wsV RX3 53 RX2 yX2_append wsX2_append) := goodIn_app (goodIn_of _ (by decide +kernel)) ggX3_site_X2_append
theorem dX3_site_0 : decode cX3_site 0 = .ok (.iload_n 1, 1) := by decide +kernel
theorem dX3_site_1 : decode cX3_site 1 = .ok (.iload_n 2, 1) := by decide +kernel
theorem dX3_site_2 : decode cX3_site 2 = .ok (.invokestatic 29, 3) := by decide +kernel
theorem dX3_site_5 : decode cX3_site 5 = .ok (.aload_n 0, 1) := by decide +kernel
theorem dX3_site_6 : decode cX3_site 6 = .ok (.getfield 12, 3) := by decide +kernel
theorem dX3_site_9 : decode cX3_site 9 = .ok (.iload_n 1, 1) := by decide +kernel
theorem dX3_site_10 : decode cX3_site 10 = .ok (.iload_n 2, 1) := by decide +kernel
theorem dX3_site_11 : decode cX3_site 11 = .ok (.invokevirtual 33, 3) := by decide +kernel
theorem dX3_site_14 : decode cX3_site 14 = .ok (.iconst (-1), 1) := by decide +kernel
theorem dX3_site_15 : decode cX3_site 15 = .ok (.if_icmp .eq 13, 3) := by decide +kernel
theorem dX3_site_18 : decode cX3_site 18 = .ok (.new 37, 3) := by decide +kernel
theorem dX3_site_21 : decode cX3_site 21 = .ok (.dup, 1) := by decide +kernel
theorem dX3_site_22 : decode cX3_site 22 = .ok (.ldc 39, 2) := by decide +kernel
theorem dX3_site_24 : decode cX3_site 24 = .ok (.invokespecial 41, 3) := by decide +kernel
theorem dX3_site_27 : decode cX3_site 27 = .ok (.athrow, 1) := by decide +kernel
theorem dX3_site_28 : decode cX3_site 28 = .ok (.aload_n 0, 1) := by decide +kernel
theorem dX3_site_29 : decode cX3_site 29 = .ok (.getfield 12, 3) := by decide +kernel
theorem dX3_site_32 : decode cX3_site 32 = .ok (.getfield 44, 3) := by decide +kernel
theorem dX3_site_35 : decode cX3_site 35 = .ok (.bipush 20, 2) := by decide +kernel
theorem dX3_site_37 : decode cX3_site 37 = .ok (.if_icmp .lt 13, 3) := by decide +kernel
theorem dX3_site_40 : decode cX3_site 40 = .ok (.new 48, 3) := by decide +kernel
theorem dX3_site_43 : decode cX3_site 43 = .ok (.dup, 1) := by decide +kernel
theorem dX3_site_44 : decode cX3_site 44 = .ok (.ldc 50, 2) := by decide +kernel
theorem dX3_site_46 : decode cX3_site 46 = .ok (.invokespecial 52, 3) := by decide +kernel
theorem dX3_site_49 : decode cX3_site 49 = .ok (.athrow, 1) := by decide +kernel
theorem dX3_site_50 : decode cX3_site 50 = .ok (.aload_n 0, 1) := by decide +kernel
theorem dX3_site_51 : decode cX3_site 51 = .ok (.iconst 1, 1) := by decide +kernel
theorem dX3_site_52 : decode cX3_site 52 = .ok (.putfield 25, 3) := by decide +kernel
theorem dX3_site_55 : decode cX3_site 55 = .ok (.aload_n 0, 1) := by decide +kernel
theorem dX3_site_56 : decode cX3_site 56 = .ok (.getfield 12, 3) := by decide +kernel
theorem dX3_site_59 : decode cX3_site 59 = .ok (.iload_n 1, 1) := by decide +kernel
theorem dX3_site_60 : decode cX3_site 60 = .ok (.iload_n 2, 1) := by decide +kernel
theorem dX3_site_61 : decode cX3_site 61 = .ok (.invokevirtual 53, 3) := by decide +kernel
theorem dX3_site_64 : decode cX3_site 64 = .ok (.ireturn, 1) := by decide +kernel
set_option maxRecDepth 20000 in
theorem ggX3_remove_X3_requireSite : GoodIn wsX3_remove wsX3_requireSite := goodIn_ca (goodIn_r _ [7, 8, 9, 2, 10, 23, 24, 25, 26, 27, 28] (by decide +kernel) (by decide +kernel)) (goodIn_sub (fun _ h => List.mem_cons_of_mem _ (List.mem_append_right _ h)) (by decide +kernel))
set_option maxRecDepth 20000 in
theorem gX3_remove_X3_requireSite : GoodIn wsX3_remove (wsV RX3 56 RX3 yX3_requireSite wsX3_requireSite) := goodIn_app (goodIn_of _ (by decide +kernel)) ggX3_remove_X3_requireSite
set_option maxRecDepth 20000 in
theorem ggX3_remove_X2_drop : GoodIn wsX3_remove wsX2_drop := goodIn_r _ [15, 16, 17, 18, 19, 20, 21, 14, 22, 26, 27, 28] (by decide +kernel) (by decide +kernel)
set_option maxRecDepth 20000 in
theorem gX3_remove_X2_drop : GoodIn wsX3_remove (wsV RX3 60 RX2 yX2_drop wsX2_drop) := goodIn_app (goodIn_of _ (by decide +kernel)) ggX3_remove_X2_drop
theorem dX3_remove_0 : decode cX3_remove 0 = .ok (.aload_n 0, 1) := by decide +kernel
theorem dX3_remove_1 : decode cX3_remove 1 = .ok (.iload_n 1, 1) := by decide +kernel
theorem dX3_remove_2 : decode cX3_remove 2 = .ok (.invokevirtual 56, 3) := by decide +kernel
theorem dX3_remove_5 : decode cX3_remove 5 = .ok (.aload_n 0, 1) := by decide +kernel
theorem dX3_remove_6 : decode cX3_remove 6 = .ok (.iconst 1, 1) := by decide +kernel
theorem dX3_remove_7 : decode cX3_remove 7 = .ok (.putfield 25, 3) := by decide +kernel
theorem dX3_remove_10 : decode cX3_remove 10 = .ok (.aload_n 0, 1) := by decide +kernel
theorem dX3_remove_11 : decode cX3_remove 11 = .ok (.getfield 12, 3) := by decide +kernel
theorem dX3_remove_14 : decode cX3_remove 14 = .ok (.iload_n 1, 1) := by decide +kernel
theorem dX3_remove_15 : decode cX3_remove 15 = .ok (.invokevirtual 60, 3) := by decide +kernel
theorem dX3_remove_18 : decode cX3_remove 18 = .ok (.return_, 1) := by decide +kernel
set_option maxRecDepth 20000 in
theorem ggX3_move_X3_requireSite : GoodIn wsX3_move wsX3_requireSite := goodIn_ca (goodIn_r _ [9, 1, 2, 3, 10, 26, 27, 28, 29, 30, 31] (by decide +kernel) (by decide +kernel)) (goodIn_sub (fun _ h => List.mem_cons_of_mem _ (List.mem_append_right _ h)) (by decide +kernel))
set_option maxRecDepth 20000 in
theorem gX3_move_X3_requireSite : GoodIn wsX3_move (wsV RX3 56 RX3 yX3_requireSite wsX3_requireSite) := goodIn_app (goodIn_of _ (by decide +kernel)) ggX3_move_X3_requireSite
set_option maxRecDepth 20000 in
theorem ggX3_move_X3_requirePlace : GoodIn wsX3_move wsX3_requirePlace := goodIn_ca (goodIn_r _ [13, 1, 2] (by decide +kernel) (by decide +kernel)) (goodIn_sub (fun _ h => List.mem_cons_of_mem _ (List.mem_append_right _ h)) (by decide +kernel))
set_option maxRecDepth 20000 in
theorem gX3_move_X3_requirePlace : GoodIn wsX3_move (va_wsS RX3 29 yX3_requirePlace wsX3_requirePlace) := goodIn_app (goodIn_of _ (by decide +kernel)) ggX3_move_X3_requirePlace
set_option maxRecDepth 20000 in
theorem ggX3_move_X2_numberAt : GoodIn wsX3_move wsX2_numberAt := goodIn_r _ [18, 19, 20, 21, 29, 30, 31] (by decide +kernel) (by decide +kernel)
set_option maxRecDepth 20000 in
theorem gX3_move_X2_numberAt : GoodIn wsX3_move (wsV RX3 33 RX2 yX2_numberAt wsX2_numberAt) := goodIn_app (goodIn_of _ (by decide +kernel)) ggX3_move_X2_numberAt
set_option maxRecDepth 20000 in
theorem ggX3_move_X2_put : GoodIn wsX3_move wsX2_put := goodIn_r _ [25, 20, 21, 29, 30, 31] (by decide +kernel) (by decide +kernel)
set_option maxRecDepth 20000 in
theorem gX3_move_X2_put : GoodIn wsX3_move (wsV RX3 65 RX2 yX2_put wsX2_put) := goodIn_app (goodIn_of _ (by decide +kernel)) ggX3_move_X2_put
theorem dX3_move_0 : decode cX3_move 0 = .ok (.aload_n 0, 1) := by decide +kernel
theorem dX3_move_1 : decode cX3_move 1 = .ok (.iload_n 1, 1) := by decide +kernel
theorem dX3_move_2 : decode cX3_move 2 = .ok (.invokevirtual 56, 3) := by decide +kernel
theorem dX3_move_5 : decode cX3_move 5 = .ok (.iload_n 2, 1) := by decide +kernel
theorem dX3_move_6 : decode cX3_move 6 = .ok (.iload_n 3, 1) := by decide +kernel
theorem dX3_move_7 : decode cX3_move 7 = .ok (.invokestatic 29, 3) := by decide +kernel
theorem dX3_move_10 : decode cX3_move 10 = .ok (.aload_n 0, 1) := by decide +kernel
theorem dX3_move_11 : decode cX3_move 11 = .ok (.getfield 12, 3) := by decide +kernel
theorem dX3_move_14 : decode cX3_move 14 = .ok (.iload_n 2, 1) := by decide +kernel
theorem dX3_move_15 : decode cX3_move 15 = .ok (.iload_n 3, 1) := by decide +kernel
theorem dX3_move_16 : decode cX3_move 16 = .ok (.invokevirtual 33, 3) := by decide +kernel
theorem dX3_move_19 : decode cX3_move 19 = .ok (.istore 4, 2) := by decide +kernel
theorem dX3_move_21 : decode cX3_move 21 = .ok (.iload 4, 2) := by decide +kernel
theorem dX3_move_23 : decode cX3_move 23 = .ok (.iconst (-1), 1) := by decide +kernel
theorem dX3_move_24 : decode cX3_move 24 = .ok (.if_icmp .eq 19, 3) := by decide +kernel
theorem dX3_move_27 : decode cX3_move 27 = .ok (.iload 4, 2) := by decide +kernel
theorem dX3_move_29 : decode cX3_move 29 = .ok (.iload_n 1, 1) := by decide +kernel
theorem dX3_move_30 : decode cX3_move 30 = .ok (.if_icmp .eq 13, 3) := by decide +kernel
theorem dX3_move_33 : decode cX3_move 33 = .ok (.new 37, 3) := by decide +kernel
theorem dX3_move_36 : decode cX3_move 36 = .ok (.dup, 1) := by decide +kernel
theorem dX3_move_37 : decode cX3_move 37 = .ok (.ldc 63, 2) := by decide +kernel
theorem dX3_move_39 : decode cX3_move 39 = .ok (.invokespecial 41, 3) := by decide +kernel
theorem dX3_move_42 : decode cX3_move 42 = .ok (.athrow, 1) := by decide +kernel
theorem dX3_move_43 : decode cX3_move 43 = .ok (.aload_n 0, 1) := by decide +kernel
theorem dX3_move_44 : decode cX3_move 44 = .ok (.iconst 1, 1) := by decide +kernel
theorem dX3_move_45 : decode cX3_move 45 = .ok (.putfield 25, 3) := by decide +kernel
theorem dX3_move_48 : decode cX3_move 48 = .ok (.aload_n 0, 1) := by decide +kernel
theorem dX3_move_49 : decode cX3_move 49 = .ok (.getfield 12, 3) := by decide +kernel
theorem dX3_move_52 : decode cX3_move 52 = .ok (.iload_n 1, 1) := by decide +kernel
theorem dX3_move_53 : decode cX3_move 53 = .ok (.iload_n 2, 1) := by decide +kernel
theorem dX3_move_54 : decode cX3_move 54 = .ok (.iload_n 3, 1) := by decide +kernel
theorem dX3_move_55 : decode cX3_move 55 = .ok (.invokevirtual 65, 3) := by decide +kernel
theorem dX3_move_58 : decode cX3_move 58 = .ok (.return_, 1) := by decide +kernel
set_option maxRecDepth 20000 in
theorem ggX3_clear_X2_dropAll : GoodIn wsX3_clear wsX2_dropAll := goodIn_r _ [7, 8, 12, 13, 14] (by decide +kernel) (by decide +kernel)
set_option maxRecDepth 20000 in
theorem gX3_clear_X2_dropAll : GoodIn wsX3_clear (wsV RX3 69 RX2 yX2_dropAll wsX2_dropAll) := goodIn_app (goodIn_of _ (by decide +kernel)) ggX3_clear_X2_dropAll
theorem dX3_clear_0 : decode cX3_clear 0 = .ok (.aload_n 0, 1) := by decide +kernel
theorem dX3_clear_1 : decode cX3_clear 1 = .ok (.iconst 1, 1) := by decide +kernel
theorem dX3_clear_2 : decode cX3_clear 2 = .ok (.putfield 25, 3) := by decide +kernel
theorem dX3_clear_5 : decode cX3_clear 5 = .ok (.aload_n 0, 1) := by decide +kernel
theorem dX3_clear_6 : decode cX3_clear 6 = .ok (.getfield 12, 3) := by decide +kernel
theorem dX3_clear_9 : decode cX3_clear 9 = .ok (.invokevirtual 69, 3) := by decide +kernel
theorem dX3_clear_12 : decode cX3_clear 12 = .ok (.return_, 1) := by decide +kernel
set_option maxRecDepth 20000 in
theorem ggX3_where_X3_requireSite : GoodIn wsX3_where wsX3_requireSite := goodIn_ca (goodIn_r _ [10, 1, 2, 3, 11, 12, 13, 14, 15, 16, 17] (by decide +kernel) (by decide +kernel)) (goodIn_sub (fun _ h => List.mem_cons_of_mem _ (List.mem_append_right _ h)) (by decide +kernel))
set_option maxRecDepth 20000 in
theorem gX3_where_X3_requireSite : GoodIn wsX3_where (wsV RX3 56 RX3 yX3_requireSite wsX3_requireSite) := goodIn_app (goodIn_of _ (by decide +kernel)) ggX3_where_X3_requireSite
theorem dX3_where_0 : decode cX3_where 0 = .ok (.aload_n 0, 1) := by decide +kernel
theorem dX3_where_1 : decode cX3_where 1 = .ok (.iload_n 1, 1) := by decide +kernel
theorem dX3_where_2 : decode cX3_where 2 = .ok (.invokevirtual 56, 3) := by decide +kernel
theorem dX3_where_5 : decode cX3_where 5 = .ok (.iload_n 2, 1) := by decide +kernel
theorem dX3_where_6 : decode cX3_where 6 = .ok (.ifCond .eq 18, 3) := by decide +kernel
theorem dX3_where_9 : decode cX3_where 9 = .ok (.iload_n 2, 1) := by decide +kernel
theorem dX3_where_10 : decode cX3_where 10 = .ok (.iconst 1, 1) := by decide +kernel
theorem dX3_where_11 : decode cX3_where 11 = .ok (.if_icmp .eq 13, 3) := by decide +kernel
theorem dX3_where_14 : decode cX3_where 14 = .ok (.new 37, 3) := by decide +kernel
theorem dX3_where_17 : decode cX3_where 17 = .ok (.dup, 1) := by decide +kernel
theorem dX3_where_18 : decode cX3_where 18 = .ok (.ldc 72, 2) := by decide +kernel
theorem dX3_where_20 : decode cX3_where 20 = .ok (.invokespecial 41, 3) := by decide +kernel
theorem dX3_where_23 : decode cX3_where 23 = .ok (.athrow, 1) := by decide +kernel
theorem dX3_where_24 : decode cX3_where 24 = .ok (.iload_n 2, 1) := by decide +kernel
theorem dX3_where_25 : decode cX3_where 25 = .ok (.ifCond .ne 15, 3) := by decide +kernel
theorem dX3_where_28 : decode cX3_where 28 = .ok (.aload_n 0, 1) := by decide +kernel
theorem dX3_where_29 : decode cX3_where 29 = .ok (.getfield 12, 3) := by decide +kernel
theorem dX3_where_32 : decode cX3_where 32 = .ok (.getfield 74, 3) := by decide +kernel
theorem dX3_where_35 : decode cX3_where 35 = .ok (.iload_n 1, 1) := by decide +kernel
theorem dX3_where_36 : decode cX3_where 36 = .ok (.iaload, 1) := by decide +kernel
theorem dX3_where_37 : decode cX3_where 37 = .ok (.goto 12, 3) := by decide +kernel
theorem dX3_where_40 : decode cX3_where 40 = .ok (.aload_n 0, 1) := by decide +kernel
theorem dX3_where_41 : decode cX3_where 41 = .ok (.getfield 12, 3) := by decide +kernel
theorem dX3_where_44 : decode cX3_where 44 = .ok (.getfield 78, 3) := by decide +kernel
theorem dX3_where_47 : decode cX3_where 47 = .ok (.iload_n 1, 1) := by decide +kernel
theorem dX3_where_48 : decode cX3_where 48 = .ok (.iaload, 1) := by decide +kernel
theorem dX3_where_49 : decode cX3_where 49 = .ok (.ireturn, 1) := by decide +kernel
set_option maxRecDepth 20000 in
theorem ggX3_cells_X3_refresh : GoodIn wsX3_cells wsX3_refresh := goodIn_r _ [7, 8, 1, 9, 10, 11, 12, 13, 14, 15, 16, 17, 18, 19, 20, 21, 22, 23, 24, 25, 26, 27, 28, 29, 30, 31, 32, 33, 34, 35, 36, 37, 38, 39, 40, 41, 42, 43, 44, 45, 46, 47, 48, 49, 50, 51, 52, 53, 54, 55, 56, 57, 58, 59, 60, 61, 62, 63, 64, 65, 66, 67, 68, 69, 70, 71, 72, 73, 74, 75, 76, 77, 78, 79, 80, 81, 82, 83, 84, 85, 86, 87, 88, 89, 90, 91, 92, 93, 94, 95, 96, 97, 98, 99, 100, 101, 102, 103, 104, 105, 106, 107, 108, 109, 110, 111, 112, 113, 114, 115, 116, 117, 118, 119, 120, 121, 122, 123, 124, 125, 126] (by decide +kernel) (by decide +kernel)
set_option maxRecDepth 20000 in
theorem gX3_cells_X3_refresh : GoodIn wsX3_cells (wsV RX3 81 RX3 yX3_refresh wsX3_refresh) := goodIn_app (goodIn_of _ (by decide +kernel)) ggX3_cells_X3_refresh
theorem dX3_cells_0 : decode cX3_cells 0 = .ok (.aload_n 0, 1) := by decide +kernel
theorem dX3_cells_1 : decode cX3_cells 1 = .ok (.invokevirtual 81, 3) := by decide +kernel
theorem dX3_cells_4 : decode cX3_cells 4 = .ok (.aload_n 0, 1) := by decide +kernel
theorem dX3_cells_5 : decode cX3_cells 5 = .ok (.getfield 21, 3) := by decide +kernel
theorem dX3_cells_8 : decode cX3_cells 8 = .ok (.getfield 84, 3) := by decide +kernel
theorem dX3_cells_11 : decode cX3_cells 11 = .ok (.ireturn, 1) := by decide +kernel
set_option maxRecDepth 20000 in
theorem ggX3_cell_X3_refresh : GoodIn wsX3_cell wsX3_refresh := goodIn_r _ [6, 7, 1, 8, 9, 10, 11, 12, 13, 14, 15, 16, 17, 18, 19, 20, 21, 22, 23, 24, 25, 26, 27, 28, 29, 30, 31, 32, 33, 34, 35, 36, 37, 38, 39, 40, 41, 42, 43, 44, 45, 46, 47, 48, 49, 50, 51, 52, 53, 54, 55, 56, 57, 58, 59, 60, 61, 62, 63, 64, 65, 66, 67, 68, 69, 70, 71, 72, 73, 74, 75, 76, 77, 78, 79, 80, 81, 82, 83, 84, 85, 86, 87, 88, 89, 90, 91, 92, 93, 94, 95, 96, 97, 98, 99, 100, 101, 102, 103, 104, 105, 106, 121, 122, 123, 124, 125, 126, 127, 128, 129, 130, 131, 132, 133, 134, 135, 136, 137, 138, 139] (by decide +kernel) (by decide +kernel)
set_option maxRecDepth 20000 in
theorem gX3_cell_X3_refresh : GoodIn wsX3_cell (wsV RX3 81 RX3 yX3_refresh wsX3_refresh) := goodIn_app (goodIn_of _ (by decide +kernel)) ggX3_cell_X3_refresh
set_option maxRecDepth 20000 in
theorem ggX3_cell_X3_requireCell : GoodIn wsX3_cell wsX3_requireCell := goodIn_ca (goodIn_r _ [110, 111, 112, 1, 113, 121, 122, 123, 124, 125, 126, 127, 128, 129, 130, 131] (by decide +kernel) (by decide +kernel)) (goodIn_sub (fun _ h => List.mem_cons_of_mem _ (List.mem_append_left _ (List.mem_append_right _ h))) (by decide +kernel))
set_option maxRecDepth 20000 in
theorem gX3_cell_X3_requireCell : GoodIn wsX3_cell (wsV RX3 87 RX3 yX3_requireCell wsX3_requireCell) := goodIn_app (goodIn_of _ (by decide +kernel)) ggX3_cell_X3_requireCell
set_option maxRecDepth 20000 in
theorem ggX3_cell_X1_sideCount : GoodIn wsX3_cell wsX1_sideCount := goodIn_r _ [81, 68, 124, 125, 126, 127, 128, 129, 130, 131] (by decide +kernel) (by decide +kernel)
set_option maxRecDepth 20000 in
theorem gX3_cell_X1_sideCount : GoodIn wsX3_cell (wsV RX3 90 RX1 yX1_sideCount wsX1_sideCount) := goodIn_app (goodIn_of _ (by decide +kernel)) ggX3_cell_X1_sideCount
set_option maxRecDepth 20000 in
theorem ggX3_cell_X3_requireIndex : GoodIn wsX3_cell wsX3_requireIndex := goodIn_ca (goodIn_r _ [117, 118, 119] (by decide +kernel) (by decide +kernel)) (goodIn_sub (fun _ h => List.mem_cons_of_mem _ (List.mem_append_right _ h)) (by decide +kernel))
set_option maxRecDepth 20000 in
theorem gX3_cell_X3_requireIndex : GoodIn wsX3_cell (va_wsS RX3 94 yX3_requireIndex wsX3_requireIndex) := goodIn_app (goodIn_of _ (by decide +kernel)) ggX3_cell_X3_requireIndex
set_option maxRecDepth 20000 in
theorem ggX3_cell_X1_siteOf : GoodIn wsX3_cell wsX1_siteOf := goodIn_r _ [85, 73, 68, 124, 125, 126, 127, 128, 129, 130, 131] (by decide +kernel) (by decide +kernel)
set_option maxRecDepth 20000 in
theorem gX3_cell_X1_siteOf : GoodIn wsX3_cell (wsV RX3 97 RX1 yX1_siteOf wsX1_siteOf) := goodIn_app (goodIn_of _ (by decide +kernel)) ggX3_cell_X1_siteOf
theorem dX3_cell_0 : decode cX3_cell 0 = .ok (.aload_n 0, 1) := by decide +kernel
theorem dX3_cell_1 : decode cX3_cell 1 = .ok (.invokevirtual 81, 3) := by decide +kernel
theorem dX3_cell_4 : decode cX3_cell 4 = .ok (.aload_n 0, 1) := by decide +kernel
theorem dX3_cell_5 : decode cX3_cell 5 = .ok (.iload_n 1, 1) := by decide +kernel
theorem dX3_cell_6 : decode cX3_cell 6 = .ok (.invokevirtual 87, 3) := by decide +kernel
theorem dX3_cell_9 : decode cX3_cell 9 = .ok (.aload_n 0, 1) := by decide +kernel
theorem dX3_cell_10 : decode cX3_cell 10 = .ok (.getfield 21, 3) := by decide +kernel
theorem dX3_cell_13 : decode cX3_cell 13 = .ok (.iload_n 1, 1) := by decide +kernel
theorem dX3_cell_14 : decode cX3_cell 14 = .ok (.invokevirtual 90, 3) := by decide +kernel
theorem dX3_cell_17 : decode cX3_cell 17 = .ok (.istore_n 3, 1) := by decide +kernel
theorem dX3_cell_18 : decode cX3_cell 18 = .ok (.iload_n 2, 1) := by decide +kernel
theorem dX3_cell_19 : decode cX3_cell 19 = .ok (.iconst (-1), 1) := by decide +kernel
theorem dX3_cell_20 : decode cX3_cell 20 = .ok (.if_icmp .ne 5, 3) := by decide +kernel
theorem dX3_cell_23 : decode cX3_cell 23 = .ok (.iload_n 3, 1) := by decide +kernel
theorem dX3_cell_24 : decode cX3_cell 24 = .ok (.ireturn, 1) := by decide +kernel
theorem dX3_cell_25 : decode cX3_cell 25 = .ok (.iload_n 2, 1) := by decide +kernel
theorem dX3_cell_26 : decode cX3_cell 26 = .ok (.iload_n 3, 1) := by decide +kernel
theorem dX3_cell_27 : decode cX3_cell 27 = .ok (.invokestatic 94, 3) := by decide +kernel
theorem dX3_cell_30 : decode cX3_cell 30 = .ok (.aload_n 0, 1) := by decide +kernel
theorem dX3_cell_31 : decode cX3_cell 31 = .ok (.getfield 21, 3) := by decide +kernel
theorem dX3_cell_34 : decode cX3_cell 34 = .ok (.iload_n 1, 1) := by decide +kernel
theorem dX3_cell_35 : decode cX3_cell 35 = .ok (.iload_n 2, 1) := by decide +kernel
theorem dX3_cell_36 : decode cX3_cell 36 = .ok (.invokevirtual 97, 3) := by decide +kernel
theorem dX3_cell_39 : decode cX3_cell 39 = .ok (.ireturn, 1) := by decide +kernel
set_option maxRecDepth 20000 in
theorem ggX3_beside_X3_refresh : GoodIn wsX3_beside wsX3_refresh := goodIn_r _ [6, 7, 1, 8, 9, 10, 11, 12, 13, 14, 15, 16, 17, 18, 19, 20, 21, 22, 23, 24, 25, 26, 27, 28, 29, 30, 31, 32, 33, 34, 35, 36, 37, 38, 39, 40, 41, 42, 43, 44, 45, 46, 47, 48, 49, 50, 51, 52, 53, 54, 55, 56, 57, 58, 59, 60, 61, 62, 63, 64, 65, 66, 67, 68, 69, 70, 71, 72, 73, 74, 75, 76, 77, 78, 79, 80, 81, 82, 83, 84, 85, 86, 87, 88, 89, 90, 91, 92, 93, 94, 95, 96, 97, 98, 99, 100, 101, 102, 103, 104, 105, 106, 124, 125, 126, 127, 128, 129, 130, 131, 132, 133, 134, 135, 136, 137, 138, 139, 140, 141, 142] (by decide +kernel) (by decide +kernel)
set_option maxRecDepth 20000 in
theorem gX3_beside_X3_refresh : GoodIn wsX3_beside (wsV RX3 81 RX3 yX3_refresh wsX3_refresh) := goodIn_app (goodIn_of _ (by decide +kernel)) ggX3_beside_X3_refresh
set_option maxRecDepth 20000 in
theorem ggX3_beside_X3_requireCell : GoodIn wsX3_beside wsX3_requireCell := goodIn_ca (goodIn_r _ [110, 111, 112, 1, 113, 124, 125, 126, 127, 128, 129, 130, 131, 132, 133, 134] (by decide +kernel) (by decide +kernel)) (goodIn_sub (fun _ h => List.mem_cons_of_mem _ (List.mem_append_left _ (List.mem_append_right _ h))) (by decide +kernel))
set_option maxRecDepth 20000 in
theorem gX3_beside_X3_requireCell : GoodIn wsX3_beside (wsV RX3 87 RX3 yX3_requireCell wsX3_requireCell) := goodIn_app (goodIn_of _ (by decide +kernel)) ggX3_beside_X3_requireCell
set_option maxRecDepth 20000 in
theorem ggX3_beside_X1_sideCount : GoodIn wsX3_beside wsX1_sideCount := goodIn_r _ [81, 68, 127, 128, 129, 130, 131, 132, 133, 134] (by decide +kernel) (by decide +kernel)
set_option maxRecDepth 20000 in
theorem gX3_beside_X1_sideCount : GoodIn wsX3_beside (wsV RX3 90 RX1 yX1_sideCount wsX1_sideCount) := goodIn_app (goodIn_of _ (by decide +kernel)) ggX3_beside_X1_sideCount
set_option maxRecDepth 20000 in
theorem ggX3_beside_X3_requireIndex : GoodIn wsX3_beside wsX3_requireIndex := goodIn_ca (goodIn_r _ [117, 118, 119] (by decide +kernel) (by decide +kernel)) (goodIn_sub (fun _ h => List.mem_cons_of_mem _ (List.mem_append_right _ h)) (by decide +kernel))
set_option maxRecDepth 20000 in
theorem gX3_beside_X3_requireIndex : GoodIn wsX3_beside (va_wsS RX3 94 yX3_requireIndex wsX3_requireIndex) := goodIn_app (goodIn_of _ (by decide +kernel)) ggX3_beside_X3_requireIndex
set_option maxRecDepth 20000 in
theorem ggX3_beside_X1_across : GoodIn wsX3_beside wsX1_across := goodIn_r _ [123, 14, 86, 87, 88, 11, 89, 78, 79, 80, 81, 68, 82, 83, 84, 85, 73, 90, 91, 92, 127, 128, 129, 130, 131, 132, 133, 134] (by decide +kernel) (by decide +kernel)
set_option maxRecDepth 20000 in
theorem gX3_beside_X1_across : GoodIn wsX3_beside (wsV RX3 100 RX1 yX1_across wsX1_across) := goodIn_app (goodIn_of _ (by decide +kernel)) ggX3_beside_X1_across
theorem dX3_beside_0 : decode cX3_beside 0 = .ok (.aload_n 0, 1) := by decide +kernel
theorem dX3_beside_1 : decode cX3_beside 1 = .ok (.invokevirtual 81, 3) := by decide +kernel
theorem dX3_beside_4 : decode cX3_beside 4 = .ok (.aload_n 0, 1) := by decide +kernel
theorem dX3_beside_5 : decode cX3_beside 5 = .ok (.iload_n 1, 1) := by decide +kernel
theorem dX3_beside_6 : decode cX3_beside 6 = .ok (.invokevirtual 87, 3) := by decide +kernel
theorem dX3_beside_9 : decode cX3_beside 9 = .ok (.iload_n 2, 1) := by decide +kernel
theorem dX3_beside_10 : decode cX3_beside 10 = .ok (.aload_n 0, 1) := by decide +kernel
theorem dX3_beside_11 : decode cX3_beside 11 = .ok (.getfield 21, 3) := by decide +kernel
theorem dX3_beside_14 : decode cX3_beside 14 = .ok (.iload_n 1, 1) := by decide +kernel
theorem dX3_beside_15 : decode cX3_beside 15 = .ok (.invokevirtual 90, 3) := by decide +kernel
theorem dX3_beside_18 : decode cX3_beside 18 = .ok (.invokestatic 94, 3) := by decide +kernel
theorem dX3_beside_21 : decode cX3_beside 21 = .ok (.aload_n 0, 1) := by decide +kernel
theorem dX3_beside_22 : decode cX3_beside 22 = .ok (.getfield 21, 3) := by decide +kernel
theorem dX3_beside_25 : decode cX3_beside 25 = .ok (.iload_n 1, 1) := by decide +kernel
theorem dX3_beside_26 : decode cX3_beside 26 = .ok (.iload_n 2, 1) := by decide +kernel
theorem dX3_beside_27 : decode cX3_beside 27 = .ok (.invokevirtual 100, 3) := by decide +kernel
theorem dX3_beside_30 : decode cX3_beside 30 = .ok (.ireturn, 1) := by decide +kernel
set_option maxRecDepth 20000 in
theorem ggX3_centre_X3_refresh : GoodIn wsX3_centre wsX3_refresh := goodIn_r _ [8, 9, 3, 10, 11, 12, 13, 14, 15, 16, 17, 18, 19, 20, 21, 22, 23, 24, 25, 26, 27, 28, 29, 30, 31, 32, 33, 34, 35, 36, 37, 38, 39, 40, 41, 42, 43, 44, 45, 46, 47, 48, 49, 50, 51, 52, 53, 54, 55, 56, 57, 58, 59, 60, 61, 62, 63, 64, 65, 66, 67, 68, 69, 70, 71, 72, 73, 74, 75, 76, 77, 78, 79, 80, 81, 82, 83, 84, 85, 86, 87, 88, 89, 90, 91, 92, 93, 94, 95, 96, 97, 98, 99, 100, 101, 102, 103, 104, 105, 106, 107, 108, 131, 132, 133, 134, 135, 136, 137, 138, 139, 140, 141, 142, 143, 144, 145, 146, 147, 148, 149] (by decide +kernel) (by decide +kernel)
set_option maxRecDepth 20000 in
theorem gX3_centre_X3_refresh : GoodIn wsX3_centre (wsV RX3 81 RX3 yX3_refresh wsX3_refresh) := goodIn_app (goodIn_of _ (by decide +kernel)) ggX3_centre_X3_refresh
set_option maxRecDepth 20000 in
theorem ggX3_centre_X3_requireCell : GoodIn wsX3_centre wsX3_requireCell := goodIn_ca (goodIn_r _ [112, 113, 114, 3, 115, 131, 132, 133, 134, 135, 136, 137, 138, 139, 140, 141] (by decide +kernel) (by decide +kernel)) (goodIn_sub (fun _ h => List.mem_cons_of_mem _ (List.mem_append_right _ h)) (by decide +kernel))
set_option maxRecDepth 20000 in
theorem gX3_centre_X3_requireCell : GoodIn wsX3_centre (wsV RX3 87 RX3 yX3_requireCell wsX3_requireCell) := goodIn_app (goodIn_of _ (by decide +kernel)) ggX3_centre_X3_requireCell
set_option maxRecDepth 20000 in
theorem ggX3_centre_X1_circleOf : GoodIn wsX3_centre wsX1_circleOf := goodIn_r _ [119, 27, 17, 84, 85, 86, 13, 87, 75, 70, 56, 57, 58, 48, 59, 60, 50, 61, 51, 54, 55, 53, 52, 134, 135, 136, 137, 138, 139, 140, 141, 142, 143, 144, 145, 146, 147, 148, 149] (by decide +kernel) (by decide +kernel)
set_option maxRecDepth 20000 in
theorem gX3_centre_X1_circleOf : GoodIn wsX3_centre (wsV RX3 105 RX1 yX1_circleOf wsX1_circleOf) := goodIn_app (goodIn_of _ (by decide +kernel)) ggX3_centre_X1_circleOf
set_option maxRecDepth 20000 in
theorem ggX3_centre_X0_middle : GoodIn wsX3_centre wsX0_middle := goodIn_r _ [123, 50, 52, 54, 51, 55, 124, 125, 126, 127, 128, 129, 48, 130, 145, 146, 147, 148, 149] (by decide +kernel) (by decide +kernel)
set_option maxRecDepth 20000 in
theorem gX3_centre_X0_middle : GoodIn wsX3_centre (wsV RX3 109 RX0 yX0_middle wsX0_middle) := goodIn_app (goodIn_of _ (by decide +kernel)) ggX3_centre_X0_middle
theorem dX3_centre_0 : decode cX3_centre 0 = .ok (.iload_n 2, 1) := by decide +kernel
theorem dX3_centre_1 : decode cX3_centre 1 = .ok (.ifCond .lt 8, 3) := by decide +kernel
theorem dX3_centre_4 : decode cX3_centre 4 = .ok (.iload_n 2, 1) := by decide +kernel
theorem dX3_centre_5 : decode cX3_centre 5 = .ok (.iconst 2, 1) := by decide +kernel
theorem dX3_centre_6 : decode cX3_centre 6 = .ok (.if_icmp .le 13, 3) := by decide +kernel
theorem dX3_centre_9 : decode cX3_centre 9 = .ok (.new 37, 3) := by decide +kernel
theorem dX3_centre_12 : decode cX3_centre 12 = .ok (.dup, 1) := by decide +kernel
theorem dX3_centre_13 : decode cX3_centre 13 = .ok (.ldc 103, 2) := by decide +kernel
theorem dX3_centre_15 : decode cX3_centre 15 = .ok (.invokespecial 41, 3) := by decide +kernel
theorem dX3_centre_18 : decode cX3_centre 18 = .ok (.athrow, 1) := by decide +kernel
theorem dX3_centre_19 : decode cX3_centre 19 = .ok (.aload_n 0, 1) := by decide +kernel
theorem dX3_centre_20 : decode cX3_centre 20 = .ok (.invokevirtual 81, 3) := by decide +kernel
theorem dX3_centre_23 : decode cX3_centre 23 = .ok (.aload_n 0, 1) := by decide +kernel
theorem dX3_centre_24 : decode cX3_centre 24 = .ok (.iload_n 1, 1) := by decide +kernel
theorem dX3_centre_25 : decode cX3_centre 25 = .ok (.invokevirtual 87, 3) := by decide +kernel
theorem dX3_centre_28 : decode cX3_centre 28 = .ok (.aload_n 0, 1) := by decide +kernel
theorem dX3_centre_29 : decode cX3_centre 29 = .ok (.getfield 21, 3) := by decide +kernel
theorem dX3_centre_32 : decode cX3_centre 32 = .ok (.iload_n 1, 1) := by decide +kernel
theorem dX3_centre_33 : decode cX3_centre 33 = .ok (.invokevirtual 105, 3) := by decide +kernel
theorem dX3_centre_36 : decode cX3_centre 36 = .ok (.iload_n 2, 1) := by decide +kernel
theorem dX3_centre_37 : decode cX3_centre 37 = .ok (.invokevirtual 109, 3) := by decide +kernel
theorem dX3_centre_40 : decode cX3_centre 40 = .ok (.lreturn, 1) := by decide +kernel
set_option maxRecDepth 20000 in
theorem ggX3_hull_X3_refresh : GoodIn wsX3_hull wsX3_refresh := goodIn_r _ [8, 9, 1, 10, 11, 12, 13, 14, 15, 16, 17, 18, 19, 20, 21, 22, 23, 24, 25, 26, 27, 28, 29, 30, 31, 32, 33, 34, 35, 36, 37, 38, 39, 40, 41, 42, 43, 44, 45, 46, 47, 48, 49, 50, 51, 52, 53, 54, 55, 56, 57, 58, 59, 60, 61, 62, 63, 64, 65, 66, 67, 68, 69, 70, 71, 72, 73, 74, 75, 76, 77, 78, 79, 80, 81, 82, 83, 84, 85, 86, 87, 88, 89, 90, 91, 92, 93, 94, 95, 96, 97, 98, 99, 100, 101, 102, 103, 104, 105, 106, 107, 108, 114, 115, 116, 117, 118, 119, 120, 121, 122, 123, 124, 125, 126, 127, 128, 129, 130, 131, 132] (by decide +kernel) (by decide +kernel)
set_option maxRecDepth 20000 in
theorem gX3_hull_X3_refresh : GoodIn wsX3_hull (wsV RX3 81 RX3 yX3_refresh wsX3_refresh) := goodIn_app (goodIn_of _ (by decide +kernel)) ggX3_hull_X3_refresh
set_option maxRecDepth 20000 in
theorem ggX3_hull_X3_requireIndex : GoodIn wsX3_hull wsX3_requireIndex := goodIn_ca (goodIn_r _ [111, 112, 113] (by decide +kernel) (by decide +kernel)) (goodIn_sub (fun _ h => List.mem_cons_of_mem _ (List.mem_append_right _ h)) (by decide +kernel))
set_option maxRecDepth 20000 in
theorem gX3_hull_X3_requireIndex : GoodIn wsX3_hull (va_wsS RX3 94 yX3_requireIndex wsX3_requireIndex) := goodIn_app (goodIn_of _ (by decide +kernel)) ggX3_hull_X3_requireIndex
theorem dX3_hull_0 : decode cX3_hull 0 = .ok (.aload_n 0, 1) := by decide +kernel
theorem dX3_hull_1 : decode cX3_hull 1 = .ok (.invokevirtual 81, 3) := by decide +kernel
theorem dX3_hull_4 : decode cX3_hull 4 = .ok (.iload_n 1, 1) := by decide +kernel
theorem dX3_hull_5 : decode cX3_hull 5 = .ok (.iconst (-1), 1) := by decide +kernel
theorem dX3_hull_6 : decode cX3_hull 6 = .ok (.if_icmp .ne 11, 3) := by decide +kernel
theorem dX3_hull_9 : decode cX3_hull 9 = .ok (.aload_n 0, 1) := by decide +kernel
theorem dX3_hull_10 : decode cX3_hull 10 = .ok (.getfield 21, 3) := by decide +kernel
theorem dX3_hull_13 : decode cX3_hull 13 = .ok (.getfield 115, 3) := by decide +kernel
theorem dX3_hull_16 : decode cX3_hull 16 = .ok (.ireturn, 1) := by decide +kernel
theorem dX3_hull_17 : decode cX3_hull 17 = .ok (.iload_n 1, 1) := by decide +kernel
theorem dX3_hull_18 : decode cX3_hull 18 = .ok (.aload_n 0, 1) := by decide +kernel
theorem dX3_hull_19 : decode cX3_hull 19 = .ok (.getfield 21, 3) := by decide +kernel
theorem dX3_hull_22 : decode cX3_hull 22 = .ok (.getfield 115, 3) := by decide +kernel
theorem dX3_hull_25 : decode cX3_hull 25 = .ok (.invokestatic 94, 3) := by decide +kernel
theorem dX3_hull_28 : decode cX3_hull 28 = .ok (.aload_n 0, 1) := by decide +kernel
theorem dX3_hull_29 : decode cX3_hull 29 = .ok (.getfield 21, 3) := by decide +kernel
theorem dX3_hull_32 : decode cX3_hull 32 = .ok (.getfield 118, 3) := by decide +kernel
theorem dX3_hull_35 : decode cX3_hull 35 = .ok (.iload_n 1, 1) := by decide +kernel
theorem dX3_hull_36 : decode cX3_hull 36 = .ok (.iaload, 1) := by decide +kernel
theorem dX3_hull_37 : decode cX3_hull 37 = .ok (.ireturn, 1) := by decide +kernel
set_option maxRecDepth 20000 in
theorem ggX3_around_X3_requirePlace : GoodIn wsX3_around wsX3_requirePlace := goodIn_ca (goodIn_r _ [5, 6, 7] (by decide +kernel) (by decide +kernel)) (goodIn_sub (fun _ h => List.mem_cons_of_mem _ (List.mem_append_right _ h)) (by decide +kernel))
set_option maxRecDepth 20000 in
theorem gX3_around_X3_requirePlace : GoodIn wsX3_around (va_wsS RX3 29 yX3_requirePlace wsX3_requirePlace) := goodIn_app (goodIn_of _ (by decide +kernel)) ggX3_around_X3_requirePlace
set_option maxRecDepth 20000 in
theorem ggX3_around_X3_refresh : GoodIn wsX3_around wsX3_refresh := goodIn_r _ [11, 12, 1, 13, 14, 15, 16, 17, 18, 19, 20, 21, 22, 23, 24, 25, 26, 27, 28, 29, 30, 31, 32, 33, 34, 35, 36, 37, 38, 39, 40, 41, 42, 43, 44, 45, 46, 47, 48, 49, 50, 51, 52, 53, 54, 55, 56, 57, 58, 59, 60, 61, 62, 63, 64, 65, 66, 67, 68, 69, 70, 71, 72, 73, 74, 75, 76, 77, 78, 79, 80, 81, 82, 83, 84, 85, 86, 87, 88, 89, 90, 91, 92, 93, 94, 95, 96, 97, 98, 99, 100, 101, 102, 103, 104, 105, 106, 107, 108, 109, 110, 111, 121, 122, 123, 124, 125, 126, 127, 128, 129, 130, 131, 132, 133, 134, 135, 136, 137, 138, 139] (by decide +kernel) (by decide +kernel)
set_option maxRecDepth 20000 in
theorem gX3_around_X3_refresh : GoodIn wsX3_around (wsV RX3 81 RX3 yX3_refresh wsX3_refresh) := goodIn_app (goodIn_of _ (by decide +kernel)) ggX3_around_X3_refresh
set_option maxRecDepth 20000 in
theorem ggX3_around_X1_firstWith : GoodIn wsX3_around wsX1_firstWith := goodIn_r _ [115, 18, 116, 117, 118, 16, 119, 20, 83, 84, 85, 86, 73, 87, 88, 89, 90, 78, 91, 92, 93, 94, 120, 39, 40, 34, 41, 36, 37, 124, 125, 126, 127, 128, 129, 130, 131, 132, 133, 134] (by decide +kernel) (by decide +kernel)
set_option maxRecDepth 20000 in
theorem gX3_around_X1_firstWith : GoodIn wsX3_around (wsV RX3 121 RX1 yX1_firstWith wsX1_firstWith) := goodIn_app (goodIn_of _ (by decide +kernel)) ggX3_around_X1_firstWith
theorem dX3_around_0 : decode cX3_around 0 = .ok (.iload_n 1, 1) := by decide +kernel
theorem dX3_around_1 : decode cX3_around 1 = .ok (.iload_n 2, 1) := by decide +kernel
theorem dX3_around_2 : decode cX3_around 2 = .ok (.invokestatic 29, 3) := by decide +kernel
theorem dX3_around_5 : decode cX3_around 5 = .ok (.aload_n 0, 1) := by decide +kernel
theorem dX3_around_6 : decode cX3_around 6 = .ok (.invokevirtual 81, 3) := by decide +kernel
theorem dX3_around_9 : decode cX3_around 9 = .ok (.aload_n 0, 1) := by decide +kernel
theorem dX3_around_10 : decode cX3_around 10 = .ok (.getfield 21, 3) := by decide +kernel
theorem dX3_around_13 : decode cX3_around 13 = .ok (.iload_n 1, 1) := by decide +kernel
theorem dX3_around_14 : decode cX3_around 14 = .ok (.iload_n 2, 1) := by decide +kernel
theorem dX3_around_15 : decode cX3_around 15 = .ok (.invokevirtual 121, 3) := by decide +kernel
theorem dX3_around_18 : decode cX3_around 18 = .ok (.ireturn, 1) := by decide +kernel
set_option maxRecDepth 20000 in
theorem ggX3_nearest_X3_requirePlace : GoodIn wsX3_nearest wsX3_requirePlace := goodIn_ca (goodIn_r _ [8, 9, 10] (by decide +kernel) (by decide +kernel)) (goodIn_sub (fun _ h => List.mem_cons_of_mem _ (List.mem_append_right _ h)) (by decide +kernel))
set_option maxRecDepth 20000 in
theorem gX3_nearest_X3_requirePlace : GoodIn wsX3_nearest (va_wsS RX3 29 yX3_requirePlace wsX3_requirePlace) := goodIn_app (goodIn_of _ (by decide +kernel)) ggX3_nearest_X3_requirePlace
set_option maxRecDepth 20000 in
theorem ggX3_nearest_X2_closestTo : GoodIn wsX3_nearest wsX2_closestTo := goodIn_r _ [15, 16, 17, 18, 19, 14, 20, 21, 22, 26, 27, 28] (by decide +kernel) (by decide +kernel)
set_option maxRecDepth 20000 in
theorem gX3_nearest_X2_closestTo : GoodIn wsX3_nearest (wsV RX3 126 RX2 yX2_closestTo wsX2_closestTo) := goodIn_app (goodIn_of _ (by decide +kernel)) ggX3_nearest_X2_closestTo
theorem dX3_nearest_0 : decode cX3_nearest 0 = .ok (.iload_n 1, 1) := by decide +kernel
theorem dX3_nearest_1 : decode cX3_nearest 1 = .ok (.iload_n 2, 1) := by decide +kernel
theorem dX3_nearest_2 : decode cX3_nearest 2 = .ok (.invokestatic 29, 3) := by decide +kernel
theorem dX3_nearest_5 : decode cX3_nearest 5 = .ok (.aload_n 0, 1) := by decide +kernel
theorem dX3_nearest_6 : decode cX3_nearest 6 = .ok (.getfield 12, 3) := by decide +kernel
theorem dX3_nearest_9 : decode cX3_nearest 9 = .ok (.getfield 44, 3) := by decide +kernel
theorem dX3_nearest_12 : decode cX3_nearest 12 = .ok (.ifCond .ne 13, 3) := by decide +kernel
theorem dX3_nearest_15 : decode cX3_nearest 15 = .ok (.new 48, 3) := by decide +kernel
theorem dX3_nearest_18 : decode cX3_nearest 18 = .ok (.dup, 1) := by decide +kernel
theorem dX3_nearest_19 : decode cX3_nearest 19 = .ok (.ldc 124, 2) := by decide +kernel
theorem dX3_nearest_21 : decode cX3_nearest 21 = .ok (.invokespecial 52, 3) := by decide +kernel
theorem dX3_nearest_24 : decode cX3_nearest 24 = .ok (.athrow, 1) := by decide +kernel
theorem dX3_nearest_25 : decode cX3_nearest 25 = .ok (.aload_n 0, 1) := by decide +kernel
theorem dX3_nearest_26 : decode cX3_nearest 26 = .ok (.getfield 12, 3) := by decide +kernel
theorem dX3_nearest_29 : decode cX3_nearest 29 = .ok (.iload_n 1, 1) := by decide +kernel
theorem dX3_nearest_30 : decode cX3_nearest 30 = .ok (.iload_n 2, 1) := by decide +kernel
theorem dX3_nearest_31 : decode cX3_nearest 31 = .ok (.invokevirtual 126, 3) := by decide +kernel
theorem dX3_nearest_34 : decode cX3_nearest 34 = .ok (.ireturn, 1) := by decide +kernel
theorem dX3_requirePlace_0 : decode cX3_requirePlace 0 = .ok (.iload_n 0, 1) := by decide +kernel
theorem dX3_requirePlace_1 : decode cX3_requirePlace 1 = .ok (.sipush (-400), 3) := by decide +kernel
theorem dX3_requirePlace_4 : decode cX3_requirePlace 4 = .ok (.if_icmp .lt 24, 3) := by decide +kernel
theorem dX3_requirePlace_7 : decode cX3_requirePlace 7 = .ok (.iload_n 0, 1) := by decide +kernel
theorem dX3_requirePlace_8 : decode cX3_requirePlace 8 = .ok (.sipush 400, 3) := by decide +kernel
theorem dX3_requirePlace_11 : decode cX3_requirePlace 11 = .ok (.if_icmp .gt 17, 3) := by decide +kernel
theorem dX3_requirePlace_14 : decode cX3_requirePlace 14 = .ok (.iload_n 1, 1) := by decide +kernel
theorem dX3_requirePlace_15 : decode cX3_requirePlace 15 = .ok (.sipush (-400), 3) := by decide +kernel
theorem dX3_requirePlace_18 : decode cX3_requirePlace 18 = .ok (.if_icmp .lt 10, 3) := by decide +kernel
theorem dX3_requirePlace_21 : decode cX3_requirePlace 21 = .ok (.iload_n 1, 1) := by decide +kernel
theorem dX3_requirePlace_22 : decode cX3_requirePlace 22 = .ok (.sipush 400, 3) := by decide +kernel
theorem dX3_requirePlace_25 : decode cX3_requirePlace 25 = .ok (.if_icmp .le 13, 3) := by decide +kernel
theorem dX3_requirePlace_28 : decode cX3_requirePlace 28 = .ok (.new 37, 3) := by decide +kernel
theorem dX3_requirePlace_31 : decode cX3_requirePlace 31 = .ok (.dup, 1) := by decide +kernel
theorem dX3_requirePlace_32 : decode cX3_requirePlace 32 = .ok (.ldc 129, 2) := by decide +kernel
theorem dX3_requirePlace_34 : decode cX3_requirePlace 34 = .ok (.invokespecial 41, 3) := by decide +kernel
theorem dX3_requirePlace_37 : decode cX3_requirePlace 37 = .ok (.athrow, 1) := by decide +kernel
theorem dX3_requirePlace_38 : decode cX3_requirePlace 38 = .ok (.return_, 1) := by decide +kernel
theorem dX3_requireSite_0 : decode cX3_requireSite 0 = .ok (.iload_n 1, 1) := by decide +kernel
theorem dX3_requireSite_1 : decode cX3_requireSite 1 = .ok (.ifCond .lt 14, 3) := by decide +kernel
theorem dX3_requireSite_4 : decode cX3_requireSite 4 = .ok (.iload_n 1, 1) := by decide +kernel
theorem dX3_requireSite_5 : decode cX3_requireSite 5 = .ok (.aload_n 0, 1) := by decide +kernel
theorem dX3_requireSite_6 : decode cX3_requireSite 6 = .ok (.getfield 12, 3) := by decide +kernel
theorem dX3_requireSite_9 : decode cX3_requireSite 9 = .ok (.getfield 44, 3) := by decide +kernel
theorem dX3_requireSite_12 : decode cX3_requireSite 12 = .ok (.if_icmp .lt 13, 3) := by decide +kernel
theorem dX3_requireSite_15 : decode cX3_requireSite 15 = .ok (.new 37, 3) := by decide +kernel
theorem dX3_requireSite_18 : decode cX3_requireSite 18 = .ok (.dup, 1) := by decide +kernel
theorem dX3_requireSite_19 : decode cX3_requireSite 19 = .ok (.ldc 131, 2) := by decide +kernel
theorem dX3_requireSite_21 : decode cX3_requireSite 21 = .ok (.invokespecial 41, 3) := by decide +kernel
theorem dX3_requireSite_24 : decode cX3_requireSite 24 = .ok (.athrow, 1) := by decide +kernel
theorem dX3_requireSite_25 : decode cX3_requireSite 25 = .ok (.return_, 1) := by decide +kernel
theorem dX3_requireCell_0 : decode cX3_requireCell 0 = .ok (.iload_n 1, 1) := by decide +kernel
theorem dX3_requireCell_1 : decode cX3_requireCell 1 = .ok (.ifCond .lt 14, 3) := by decide +kernel
theorem dX3_requireCell_4 : decode cX3_requireCell 4 = .ok (.iload_n 1, 1) := by decide +kernel
theorem dX3_requireCell_5 : decode cX3_requireCell 5 = .ok (.aload_n 0, 1) := by decide +kernel
theorem dX3_requireCell_6 : decode cX3_requireCell 6 = .ok (.getfield 21, 3) := by decide +kernel
theorem dX3_requireCell_9 : decode cX3_requireCell 9 = .ok (.getfield 84, 3) := by decide +kernel
theorem dX3_requireCell_12 : decode cX3_requireCell 12 = .ok (.if_icmp .lt 13, 3) := by decide +kernel
theorem dX3_requireCell_15 : decode cX3_requireCell 15 = .ok (.new 133, 3) := by decide +kernel
theorem dX3_requireCell_18 : decode cX3_requireCell 18 = .ok (.dup, 1) := by decide +kernel
theorem dX3_requireCell_19 : decode cX3_requireCell 19 = .ok (.ldc 135, 2) := by decide +kernel
theorem dX3_requireCell_21 : decode cX3_requireCell 21 = .ok (.invokespecial 137, 3) := by decide +kernel
theorem dX3_requireCell_24 : decode cX3_requireCell 24 = .ok (.athrow, 1) := by decide +kernel
theorem dX3_requireCell_25 : decode cX3_requireCell 25 = .ok (.return_, 1) := by decide +kernel
theorem dX3_requireIndex_0 : decode cX3_requireIndex 0 = .ok (.iload_n 0, 1) := by decide +kernel
theorem dX3_requireIndex_1 : decode cX3_requireIndex 1 = .ok (.ifCond .lt 8, 3) := by decide +kernel
theorem dX3_requireIndex_4 : decode cX3_requireIndex 4 = .ok (.iload_n 0, 1) := by decide +kernel
theorem dX3_requireIndex_5 : decode cX3_requireIndex 5 = .ok (.iload_n 1, 1) := by decide +kernel
theorem dX3_requireIndex_6 : decode cX3_requireIndex 6 = .ok (.if_icmp .lt 13, 3) := by decide +kernel
theorem dX3_requireIndex_9 : decode cX3_requireIndex 9 = .ok (.new 138, 3) := by decide +kernel
theorem dX3_requireIndex_12 : decode cX3_requireIndex 12 = .ok (.dup, 1) := by decide +kernel
theorem dX3_requireIndex_13 : decode cX3_requireIndex 13 = .ok (.ldc 140, 2) := by decide +kernel
theorem dX3_requireIndex_15 : decode cX3_requireIndex 15 = .ok (.invokespecial 142, 3) := by decide +kernel
theorem dX3_requireIndex_18 : decode cX3_requireIndex 18 = .ok (.athrow, 1) := by decide +kernel
theorem dX3_requireIndex_19 : decode cX3_requireIndex 19 = .ok (.return_, 1) := by decide +kernel
set_option maxRecDepth 20000 in
theorem ggX3_refresh_X1_build : GoodIn wsX3_refresh wsX1_build := goodIn_r _ [7, 8, 9, 10, 11, 12, 13, 14, 15, 16, 17, 18, 6, 19, 20, 21, 22, 23, 24, 25, 26, 27, 28, 29, 30, 31, 32, 33, 34, 35, 36, 37, 38, 39, 40, 41, 42, 43, 44, 45, 46, 47, 48, 49, 50, 51, 52, 53, 54, 55, 56, 57, 58, 59, 60, 61, 62, 63, 64, 65, 66, 67, 68, 69, 70, 71, 72, 73, 74, 75, 76, 77, 78, 79, 80, 81, 82, 83, 84, 85, 86, 87, 88, 89, 90, 91, 92, 93, 94, 95, 96, 97, 98, 99, 100, 101, 105, 106, 107, 108, 109, 110, 111, 112, 113, 114, 115, 116, 117, 118, 119, 120] (by decide +kernel) (by decide +kernel)
set_option maxRecDepth 20000 in
theorem gX3_refresh_X1_build : GoodIn wsX3_refresh (wsV RX3 143 RX1 yX1_build wsX1_build) := goodIn_app (goodIn_of _ (by decide +kernel)) ggX3_refresh_X1_build
theorem dX3_refresh_0 : decode cX3_refresh 0 = .ok (.aload_n 0, 1) := by decide +kernel
theorem dX3_refresh_1 : decode cX3_refresh 1 = .ok (.getfield 25, 3) := by decide +kernel
theorem dX3_refresh_4 : decode cX3_refresh 4 = .ok (.ifCond .eq 15, 3) := by decide +kernel
theorem dX3_refresh_7 : decode cX3_refresh 7 = .ok (.aload_n 0, 1) := by decide +kernel
theorem dX3_refresh_8 : decode cX3_refresh 8 = .ok (.getfield 21, 3) := by decide +kernel
theorem dX3_refresh_11 : decode cX3_refresh 11 = .ok (.invokevirtual 143, 3) := by decide +kernel
theorem dX3_refresh_14 : decode cX3_refresh 14 = .ok (.aload_n 0, 1) := by decide +kernel
theorem dX3_refresh_15 : decode cX3_refresh 15 = .ok (.iconst 0, 1) := by decide +kernel
theorem dX3_refresh_16 : decode cX3_refresh 16 = .ok (.putfield 25, 3) := by decide +kernel
theorem dX3_refresh_19 : decode cX3_refresh 19 = .ok (.return_, 1) := by decide +kernel
theorem dJ9_abs_067f4_0 : decode cJ9_abs_067f4 0 = .ok (.lload_n 0, 1) := by decide +kernel
theorem dJ9_abs_067f4_1 : decode cJ9_abs_067f4 1 = .ok (.lconst 0, 1) := by decide +kernel
theorem dJ9_abs_067f4_2 : decode cJ9_abs_067f4 2 = .ok (.lcmp, 1) := by decide +kernel
theorem dJ9_abs_067f4_3 : decode cJ9_abs_067f4 3 = .ok (.ifCond .ge 8, 3) := by decide +kernel
theorem dJ9_abs_067f4_6 : decode cJ9_abs_067f4 6 = .ok (.lload_n 0, 1) := by decide +kernel
theorem dJ9_abs_067f4_7 : decode cJ9_abs_067f4 7 = .ok (.lneg, 1) := by decide +kernel
theorem dJ9_abs_067f4_8 : decode cJ9_abs_067f4 8 = .ok (.goto 4, 3) := by decide +kernel
theorem dJ9_abs_067f4_11 : decode cJ9_abs_067f4 11 = .ok (.lload_n 0, 1) := by decide +kernel
theorem dJ9_abs_067f4_12 : decode cJ9_abs_067f4 12 = .ok (.lreturn, 1) := by decide +kernel
theorem dJ7_fill_53178_0 : decode cJ7_fill_53178 0 = .ok (.iconst 0, 1) := by decide +kernel
theorem dJ7_fill_53178_1 : decode cJ7_fill_53178 1 = .ok (.istore_n 2, 1) := by decide +kernel
theorem dJ7_fill_53178_2 : decode cJ7_fill_53178 2 = .ok (.aload_n 0, 1) := by decide +kernel
theorem dJ7_fill_53178_3 : decode cJ7_fill_53178 3 = .ok (.arraylength, 1) := by decide +kernel
theorem dJ7_fill_53178_4 : decode cJ7_fill_53178 4 = .ok (.istore_n 3, 1) := by decide +kernel
theorem dJ7_fill_53178_5 : decode cJ7_fill_53178 5 = .ok (.iload_n 2, 1) := by decide +kernel
theorem dJ7_fill_53178_6 : decode cJ7_fill_53178 6 = .ok (.iload_n 3, 1) := by decide +kernel
theorem dJ7_fill_53178_7 : decode cJ7_fill_53178 7 = .ok (.if_icmp .ge 13, 3) := by decide +kernel
theorem dJ7_fill_53178_10 : decode cJ7_fill_53178 10 = .ok (.aload_n 0, 1) := by decide +kernel
theorem dJ7_fill_53178_11 : decode cJ7_fill_53178 11 = .ok (.iload_n 2, 1) := by decide +kernel
theorem dJ7_fill_53178_12 : decode cJ7_fill_53178 12 = .ok (.iload_n 1, 1) := by decide +kernel
theorem dJ7_fill_53178_13 : decode cJ7_fill_53178 13 = .ok (.iastore, 1) := by decide +kernel
theorem dJ7_fill_53178_14 : decode cJ7_fill_53178 14 = .ok (.iinc 2 1, 3) := by decide +kernel
theorem dJ7_fill_53178_17 : decode cJ7_fill_53178 17 = .ok (.goto (-12), 3) := by decide +kernel
theorem dJ7_fill_53178_20 : decode cJ7_fill_53178 20 = .ok (.return_, 1) := by decide +kernel
end
section
/-! Rows of my own over the kit: reading methods (nothing is written: the heap stays), arrays by natural places. -/
/-- the start of a reading method: its arguments, the cells that it reads, the array types -/
def q_Pc (D : va_G) (av : List Value) (ws : va_W) (tys : List (ClassId × FieldType)) : Array Value → State → Prop := va_Pc av (fun U => va_P D vwCl ws U.heap ∧ va_K D vwCl tys U)
/-- a truth as the machine has it -/
def bI (b : Bool) : Int32 := if b then 1 else 0
theorem bI_0 {b : Bool} : bI b = 0 ↔ b = false := by cases b <;> simp [bI]
theorem bI_1 {b : Bool} (h : ¬ bI b = 0) : b = true := by cases b <;> simp [bI] at h ⊢
theorem bI_nar (b : Bool) : narrow .boolean (.int (bI b)) = .int (bI b) := by cases b <;> rfl
theorem bI_fit (b : Bool) : fits .boolean (.int (bI b)) = true := by cases b <;> rfl
/-- an array of naturals, one place changed -/
def updN (g : Nat → Nat) (k v : Nat) : Nat → Nat := fun j => if j = k then v else g j
theorem upd_nI {g : Nat → Nat} {k v : Nat} : upd (fun j => nI (g j)) k (nI v) = fun j => nI (updN g k v j) := by
  funext j
  by_cases h : j = k <;> simp [upd, updN, h]
theorem q_inc (x n : Nat) : nI x + Int32.ofInt n = nI (x + n) := by
  rw [← nI_add]; rfl
section QB
variable {p : Program} {l : Launch} {e : Env} {R : Room} {s : State} {m : MethodId} {args : Array Value} {below : List Frame} {meth : Method} {c : Code} {H : Heap} {locs : List Loc} {cells slots : Nat} {Q : State → Prop}
variable {cc : ByteArray} {pc : Nat} {ls : Array Slot} {rest st0 : List Value} {D : va_G} {A : Nat → Prop} {a : Nat} {tys : List (ClassId × FieldType)} {ws : va_W} {H0 : Heap}
theorem q_blind {av : List Value} : FrameBlind (q_Pc D av ws tys) := fun a U g mk q => by
  obtain ⟨q0, qP, qK⟩ := q
  exact ⟨q0, qP, va_K.moved (u := U) (U := U.calling g mk a) (Vm.Alike.refl U.vm) qK⟩
theorem q_pS {av As : List Value} {ws' : va_W} {tys' : List (ClassId × FieldType)} (hK : va_K D vwCl tys s) (hP : va_P D vwCl ws H) (is js : List Nat) (hs : is.filterMap (fun i => ws[i]?) = ws') (hj : js.filterMap (fun i => tys[i]?) = tys') (hav : As = av) : PreS s H (q_Pc D av ws' tys') As := by
  subst hav
  exact ⟨q_blind, fun U hU hW => ⟨rfl, by rw [hU]; exact hP.sub is hs, va_K.moved hW.alike (hK.sub js hj)⟩⟩
theorem q_pV {av As : List Value} {ws' : va_W} {tys' : List (ClassId × FieldType)} {C : String} {b : Addr} {q : vw_C} {fs : List Value} (hK : va_K D vwCl tys s) (hP : va_P D vwCl ws H) (is js : List Nat) (ci q0 : Nat) (hs : is.filterMap (fun i => ws[i]?) = ws') (hj : js.filterMap (fun i => tys[i]?) = tys') (hav : .ref b :: As = av) (hc : vwCl[ci]? = some q) (hC : q.1 = C) (he : ws[q0]? = some (b, .inr (ci, fs))) : PreV s H C b (q_Pc D av ws' tys') As := by
  subst hav
  subst hC
  exact ⟨q_blind, va_recv hK hP hc he, fun U hU hW => ⟨rfl, by rw [hU]; exact hP.sub is hs, va_K.moved hW.alike (hK.sub js hj)⟩⟩
/-- a call of a reading method -/
theorem q_cV {y : MethodName} {bytes : ByteArray} {maxL nL n index : Nat} {ret : Option FieldType} {wsy : List Cond} {rm : Room} {Pc : Array Value → State → Prop} {Ts : List Cond} {own C : String} {b : Addr} {As : List Value} {r : Value}
    (S : CallFix p m c cc nL s args Ts own) (hM : Met l y wsy rm Pc (k2_QcV r) 0 0 (fun _ => False)) (cw : CallW R s args own C index y bytes maxL ret wsy rm 0 0 n) (hp : PreV s H C b Pc As)
    (hn : As.length = n) (hl : ls.size = nL) (hst : st0 = As.reverse ++ .ref b :: rest) (hW : (rest.map fun v => v.category).sum ≤ 8) (hf : cells ≤ R.cells ∧ slots ≤ R.slots) (hdg : decode cc pc = .ok (.invokevirtual index, 3))
    (kk : W p l e R s m args below meth c H locs cells slots Q (F0 m (pc + 3) ls (r :: rest))) : W p l e R s m args below meth c H locs cells slots Q (F0 m pc ls st0) :=
  W.callV (W.runV S hM cw hp rfl hn hl hst (lv_room hW) hdg hf) kk
theorem q_cS {y : MethodName} {bytes : ByteArray} {maxL nL n index : Nat} {ret : Option FieldType} {wsy : List Cond} {rm : Room} {Pc : Array Value → State → Prop} {Ts : List Cond} {own : String} {As : List Value} {r : Value}
    (S : CallFix p m c cc nL s args Ts own) (hM : Met l y wsy rm Pc (k2_QcV r) 0 0 (fun _ => False)) (cw : CallB R s args own index y bytes maxL ret wsy rm 0 0 n ∧ (Cond.static y).before args s = true) (hp : PreS s H Pc As)
    (hn : As.length = n) (hl : ls.size = nL) (hst : st0 = As.reverse ++ rest) (hW : (rest.map fun v => v.category).sum ≤ 8) (hf : cells ≤ R.cells ∧ slots ≤ R.slots) (hdg : decode cc pc = .ok (.invokestatic index, 3))
    (kk : W p l e R s m args below meth c H locs cells slots Q (F0 m (pc + 3) ls (r :: rest))) : W p l e R s m args below meth c H locs cells slots Q (F0 m pc ls st0) :=
  W.callV (W.runS S hM cw hp rfl hn hl hst (lv_room hW) hdg hf) kk
/-- an array by a natural place -/
theorem q_iald (hexec : p.tables.exec = Jvm.exec) (hb : c.code = cc) (hK : va_K D vwCl tys s) (hP : va_P D vwCl ws H) (q0 t0 : Nat) {cA : ClassId} {n : Nat} {f : Nat → Int32} (ha : ws[q0]? = some (a, .inl (cA, n, .inl f))) (ht : tys[t0]? = some (cA, .int)) {i : Int32} (k : Nat) (hi : i = nI k) (hk : k < n) (hn : n < 2 ^ 31) (hdg : decode cc pc = .ok (.iaload, 1))
    (kk : W p l e R s m args below meth c H locs cells slots Q (F0 m (pc + 1) ls (.int (f k) :: rest))) : W p l e R s m args below meth c H locs cells slots Q (F0 m pc ls (.int i :: .ref a :: rest)) := by
  subst hi
  refine va_iald hexec hb hK hP q0 t0 ha ht (vp_in_nI hk hn) hdg ?_
  rw [nI_clamp (Nat.lt_trans hk hn)]
  exact kk
theorem q_iast (hexec : p.tables.exec = Jvm.exec) (hb : c.code = cc) (hK : va_K D vwCl tys s) (hP : va_P D vwCl ws H) (hD : va_D A ws) (hS : va_S A H0 H locs) (q0 t0 : Nat) {cA : ClassId} {n : Nat} {f : Nat → Int32} (ha : ws[q0]? = some (a, .inl (cA, n, .inl f))) (ht : tys[t0]? = some (cA, .int)) {i : Int32} {x : Int32} (k : Nat) (hi : i = nI k) (hk : k < n) (hn : n < 2 ^ 31) (hdg : decode cc pc = .ok (.iastore, 1)) {ws' : va_W} (hw : ws.set q0 (a, .inl (cA, n, .inl (upd f k x))) = ws')
    (kk : ∀ (H1 : Heap) (locs1 : List Loc), va_P D vwCl ws' H1 → va_D A ws' → va_S A H0 H1 locs1 → W p l e R s m args below meth c H1 locs1 cells slots Q (F0 m (pc + 1) ls rest)) : W p l e R s m args below meth c H locs cells slots Q (F0 m pc ls (.int x :: .int i :: .ref a :: rest)) := by
  subst hi
  subst hw
  refine va_iast hexec hb hK hP hD hS q0 t0 ha ht (vp_in_nI hk hn) hdg ?_
  rw [nI_clamp (Nat.lt_trans hk hn)]
  exact kk
theorem q_last (hexec : p.tables.exec = Jvm.exec) (hb : c.code = cc) (hK : va_K D vwCl tys s) (hP : va_P D vwCl ws H) (hD : va_D A ws) (hS : va_S A H0 H locs) (q0 t0 : Nat) {cA : ClassId} {n : Nat} {f : Nat → Int64} (ha : ws[q0]? = some (a, .inl (cA, n, .inr (.inl f)))) (ht : tys[t0]? = some (cA, .long)) {i : Int32} {x : Int64} (k : Nat) (hi : i = nI k) (hk : k < n) (hn : n < 2 ^ 31) (hdg : decode cc pc = .ok (.lastore, 1)) {ws' : va_W} (hw : ws.set q0 (a, .inl (cA, n, .inr (.inl (vp_updL f k x)))) = ws')
    (kk : ∀ (H1 : Heap) (locs1 : List Loc), va_P D vwCl ws' H1 → va_D A ws' → va_S A H0 H1 locs1 → W p l e R s m args below meth c H1 locs1 cells slots Q (F0 m (pc + 1) ls rest)) : W p l e R s m args below meth c H locs cells slots Q (F0 m pc ls (.long x :: .int i :: .ref a :: rest)) := by
  subst hi
  subst hw
  refine va_last hexec hb hK hP hD hS q0 t0 ha ht (vp_in_nI hk hn) hdg ?_
  rw [nI_clamp (Nat.lt_trans hk hn)]
  exact kk
theorem q_iadd (hexec : p.tables.exec = Jvm.exec) (hb : c.code = cc) {x y : Nat} (hdg : decode cc pc = .ok (.iadd, 1)) (kk : W p l e R s m args below meth c H locs cells slots Q (F0 m (pc + 1) ls (.int (nI (x + y)) :: rest))) : W p l e R s m args below meth c H locs cells slots Q (F0 m pc ls (.int (nI y) :: .int (nI x) :: rest)) := lv_iadd hexec hb hdg (by rw [nI_add]; exact kk)
theorem q_imul (hexec : p.tables.exec = Jvm.exec) (hb : c.code = cc) {x y : Nat} (hdg : decode cc pc = .ok (.imul, 1)) (kk : W p l e R s m args below meth c H locs cells slots Q (F0 m (pc + 1) ls (.int (nI (x * y)) :: rest))) : W p l e R s m args below meth c H locs cells slots Q (F0 m pc ls (.int (nI y) :: .int (nI x) :: rest)) := lv_imul hexec hb hdg (by rw [pk_mul]; exact kk)
theorem q_isub {x y : Nat} (hxy : y ≤ x) (hexec : p.tables.exec = Jvm.exec) (hb : c.code = cc) (hdg : decode cc pc = .ok (.isub, 1)) (kk : W p l e R s m args below meth c H locs cells slots Q (F0 m (pc + 1) ls (.int (nI (x - y)) :: rest))) : W p l e R s m args below meth c H locs cells slots Q (F0 m pc ls (.int (nI y) :: .int (nI x) :: rest)) := lv_isub hexec hb hdg (by rw [pk_sub hxy]; exact kk)
theorem q_icmp_eq {x y : Nat} {off : Int} {tgt : Nat} (hx9 : x < 2 ^ 31) (hy9 : y < 2 ^ 31) (hexec : p.tables.exec = Jvm.exec) (hb : c.code = cc) (hdg : decode cc pc = .ok (.if_icmp .eq off, 3)) (ht : (pc : Int) + off = (tgt : Int)) (kt : x = y → W p l e R s m args below meth c H locs cells slots Q (F0 m tgt ls rest)) (kf : ¬ x = y → W p l e R s m args below meth c H locs cells slots Q (F0 m (pc + 3) ls rest)) : W p l e R s m args below meth c H locs cells slots Q (F0 m pc ls (.int (nI y) :: .int (nI x) :: rest)) := lv_icmp_eq hexec hb hdg ht (fun h => kt ((nI_eq hx9 hy9).mp h)) (fun h => kf (fun h2 => h ((nI_eq hx9 hy9).mpr h2)))
theorem q_icmp_ne {x y : Nat} {off : Int} {tgt : Nat} (hx9 : x < 2 ^ 31) (hy9 : y < 2 ^ 31) (hexec : p.tables.exec = Jvm.exec) (hb : c.code = cc) (hdg : decode cc pc = .ok (.if_icmp .ne off, 3)) (ht : (pc : Int) + off = (tgt : Int)) (kt : ¬ x = y → W p l e R s m args below meth c H locs cells slots Q (F0 m tgt ls rest)) (kf : x = y → W p l e R s m args below meth c H locs cells slots Q (F0 m (pc + 3) ls rest)) : W p l e R s m args below meth c H locs cells slots Q (F0 m pc ls (.int (nI y) :: .int (nI x) :: rest)) := lv_icmp_ne hexec hb hdg ht (fun h => kt (fun h2 => h ((nI_eq hx9 hy9).mpr h2))) (fun h => kf ((nI_eq hx9 hy9).mp h))
theorem q_icmp_lt {x y : Nat} {off : Int} {tgt : Nat} (hx9 : x < 2 ^ 31) (hy9 : y < 2 ^ 31) (hexec : p.tables.exec = Jvm.exec) (hb : c.code = cc) (hdg : decode cc pc = .ok (.if_icmp .lt off, 3)) (ht : (pc : Int) + off = (tgt : Int)) (kt : x < y → W p l e R s m args below meth c H locs cells slots Q (F0 m tgt ls rest)) (kf : y ≤ x → W p l e R s m args below meth c H locs cells slots Q (F0 m (pc + 3) ls rest)) : W p l e R s m args below meth c H locs cells slots Q (F0 m pc ls (.int (nI y) :: .int (nI x) :: rest)) := lv_icmp_lt hexec hb hdg ht (fun h => kt ((nI_ltI hx9 hy9).mp h)) (fun h => kf (Nat.not_lt.mp (fun h2 => h ((nI_ltI hx9 hy9).mpr h2))))
theorem q_icmp_ge {x y : Nat} {off : Int} {tgt : Nat} (hx9 : x < 2 ^ 31) (hy9 : y < 2 ^ 31) (hexec : p.tables.exec = Jvm.exec) (hb : c.code = cc) (hdg : decode cc pc = .ok (.if_icmp .ge off, 3)) (ht : (pc : Int) + off = (tgt : Int)) (kt : y ≤ x → W p l e R s m args below meth c H locs cells slots Q (F0 m tgt ls rest)) (kf : x < y → W p l e R s m args below meth c H locs cells slots Q (F0 m (pc + 3) ls rest)) : W p l e R s m args below meth c H locs cells slots Q (F0 m pc ls (.int (nI y) :: .int (nI x) :: rest)) := lv_icmp_ge hexec hb hdg ht (fun h => kt ((nI_leI hy9 hx9).mp h)) (fun h => kf (Nat.not_le.mp (fun h2 => h ((nI_leI hy9 hx9).mpr h2))))
theorem q_icmp_gt {x y : Nat} {off : Int} {tgt : Nat} (hx9 : x < 2 ^ 31) (hy9 : y < 2 ^ 31) (hexec : p.tables.exec = Jvm.exec) (hb : c.code = cc) (hdg : decode cc pc = .ok (.if_icmp .gt off, 3)) (ht : (pc : Int) + off = (tgt : Int)) (kt : y < x → W p l e R s m args below meth c H locs cells slots Q (F0 m tgt ls rest)) (kf : x ≤ y → W p l e R s m args below meth c H locs cells slots Q (F0 m (pc + 3) ls rest)) : W p l e R s m args below meth c H locs cells slots Q (F0 m pc ls (.int (nI y) :: .int (nI x) :: rest)) := lv_icmp_gt hexec hb hdg ht (fun h => kt ((nI_ltI hy9 hx9).mp h)) (fun h => kf (Nat.not_lt.mp (fun h2 => h ((nI_ltI hy9 hx9).mpr h2))))
theorem q_icmp_le {x y : Nat} {off : Int} {tgt : Nat} (hx9 : x < 2 ^ 31) (hy9 : y < 2 ^ 31) (hexec : p.tables.exec = Jvm.exec) (hb : c.code = cc) (hdg : decode cc pc = .ok (.if_icmp .le off, 3)) (ht : (pc : Int) + off = (tgt : Int)) (kt : x ≤ y → W p l e R s m args below meth c H locs cells slots Q (F0 m tgt ls rest)) (kf : y < x → W p l e R s m args below meth c H locs cells slots Q (F0 m (pc + 3) ls rest)) : W p l e R s m args below meth c H locs cells slots Q (F0 m pc ls (.int (nI y) :: .int (nI x) :: rest)) := lv_icmp_le hexec hb hdg ht (fun h => kt ((nI_leI hx9 hy9).mp h)) (fun h => kf (Nat.not_le.mp (fun h2 => h ((nI_leI hx9 hy9).mpr h2))))
theorem q_ifb_eq {x : Bool} {off : Int} {tgt : Nat} (hexec : p.tables.exec = Jvm.exec) (hb : c.code = cc) (hdg : decode cc pc = .ok (.ifCond .eq off, 3)) (ht : (pc : Int) + off = (tgt : Int)) (kt : x = false → W p l e R s m args below meth c H locs cells slots Q (F0 m tgt ls rest)) (kf : x = true → W p l e R s m args below meth c H locs cells slots Q (F0 m (pc + 3) ls rest)) : W p l e R s m args below meth c H locs cells slots Q (F0 m pc ls (.int (bI x) :: rest)) := lv_if_eq hexec hb hdg ht (fun h => kt (bI_0.mp h)) (fun h => kf (bI_1 h))
theorem q_ifb_ne {x : Bool} {off : Int} {tgt : Nat} (hexec : p.tables.exec = Jvm.exec) (hb : c.code = cc) (hdg : decode cc pc = .ok (.ifCond .ne off, 3)) (ht : (pc : Int) + off = (tgt : Int)) (kt : x = true → W p l e R s m args below meth c H locs cells slots Q (F0 m tgt ls rest)) (kf : x = false → W p l e R s m args below meth c H locs cells slots Q (F0 m (pc + 3) ls rest)) : W p l e R s m args below meth c H locs cells slots Q (F0 m pc ls (.int (bI x) :: rest)) := lv_if_ne hexec hb hdg ht (fun h => kt (bI_1 h)) (fun h => kf (bI_0.mp h))
theorem q_lcmp_eq {x y : Int64} {off : Int} {tgt : Nat} (hexec : p.tables.exec = Jvm.exec) (hb : c.code = cc) (hdg : decode cc pc = .ok (.lcmp, 1)) (hdg2 : decode cc (pc + 1) = .ok (.ifCond .eq off, 3)) (ht : ((pc + 1 : Nat) : Int) + off = (tgt : Int)) (kt : x = y → W p l e R s m args below meth c H locs cells slots Q (F0 m tgt ls rest)) (kf : ¬ x = y → W p l e R s m args below meth c H locs cells slots Q (F0 m (pc + 1 + 3) ls rest)) : W p l e R s m args below meth c H locs cells slots Q (F0 m pc ls (.long y :: .long x :: rest)) := W.lcmp hexec hb hdg (lv_if_eq hexec hb hdg2 ht (fun h => kt ((lg_cmp_eq x y).mp h)) (fun h => kf (fun h2 => h ((lg_cmp_eq x y).mpr h2))))
theorem q_lcmp_ne {x y : Int64} {off : Int} {tgt : Nat} (hexec : p.tables.exec = Jvm.exec) (hb : c.code = cc) (hdg : decode cc pc = .ok (.lcmp, 1)) (hdg2 : decode cc (pc + 1) = .ok (.ifCond .ne off, 3)) (ht : ((pc + 1 : Nat) : Int) + off = (tgt : Int)) (kt : ¬ x = y → W p l e R s m args below meth c H locs cells slots Q (F0 m tgt ls rest)) (kf : x = y → W p l e R s m args below meth c H locs cells slots Q (F0 m (pc + 1 + 3) ls rest)) : W p l e R s m args below meth c H locs cells slots Q (F0 m pc ls (.long y :: .long x :: rest)) := W.lcmp hexec hb hdg (lv_if_ne hexec hb hdg2 ht (fun h => kt (fun h2 => h ((lg_cmp_eq x y).mpr h2))) (fun h => kf ((lg_cmp_eq x y).mp h)))
theorem q_lcmp_lt {x y : Int64} {off : Int} {tgt : Nat} (hexec : p.tables.exec = Jvm.exec) (hb : c.code = cc) (hdg : decode cc pc = .ok (.lcmp, 1)) (hdg2 : decode cc (pc + 1) = .ok (.ifCond .lt off, 3)) (ht : ((pc + 1 : Nat) : Int) + off = (tgt : Int)) (kt : x < y → W p l e R s m args below meth c H locs cells slots Q (F0 m tgt ls rest)) (kf : ¬ x < y → W p l e R s m args below meth c H locs cells slots Q (F0 m (pc + 1 + 3) ls rest)) : W p l e R s m args below meth c H locs cells slots Q (F0 m pc ls (.long y :: .long x :: rest)) := W.lcmp hexec hb hdg (lv_if_lt hexec hb hdg2 ht (fun h => kt ((lg_cmp_lt x y).mp h)) (fun h => kf (fun h2 => h ((lg_cmp_lt x y).mpr h2))))
theorem q_lcmp_ge {x y : Int64} {off : Int} {tgt : Nat} (hexec : p.tables.exec = Jvm.exec) (hb : c.code = cc) (hdg : decode cc pc = .ok (.lcmp, 1)) (hdg2 : decode cc (pc + 1) = .ok (.ifCond .ge off, 3)) (ht : ((pc + 1 : Nat) : Int) + off = (tgt : Int)) (kt : y ≤ x → W p l e R s m args below meth c H locs cells slots Q (F0 m tgt ls rest)) (kf : ¬ y ≤ x → W p l e R s m args below meth c H locs cells slots Q (F0 m (pc + 1 + 3) ls rest)) : W p l e R s m args below meth c H locs cells slots Q (F0 m pc ls (.long y :: .long x :: rest)) := W.lcmp hexec hb hdg (lv_if_ge hexec hb hdg2 ht (fun h => kt ((lg_cmp_ge x y).mp h)) (fun h => kf (fun h2 => h ((lg_cmp_ge x y).mpr h2))))
theorem q_lcmp_gt {x y : Int64} {off : Int} {tgt : Nat} (hexec : p.tables.exec = Jvm.exec) (hb : c.code = cc) (hdg : decode cc pc = .ok (.lcmp, 1)) (hdg2 : decode cc (pc + 1) = .ok (.ifCond .gt off, 3)) (ht : ((pc + 1 : Nat) : Int) + off = (tgt : Int)) (kt : y < x → W p l e R s m args below meth c H locs cells slots Q (F0 m tgt ls rest)) (kf : ¬ y < x → W p l e R s m args below meth c H locs cells slots Q (F0 m (pc + 1 + 3) ls rest)) : W p l e R s m args below meth c H locs cells slots Q (F0 m pc ls (.long y :: .long x :: rest)) := W.lcmp hexec hb hdg (lv_if_gt hexec hb hdg2 ht (fun h => kt ((lg_cmp_gt x y).mp h)) (fun h => kf (fun h2 => h ((lg_cmp_gt x y).mpr h2))))
theorem q_lcmp_le {x y : Int64} {off : Int} {tgt : Nat} (hexec : p.tables.exec = Jvm.exec) (hb : c.code = cc) (hdg : decode cc pc = .ok (.lcmp, 1)) (hdg2 : decode cc (pc + 1) = .ok (.ifCond .le off, 3)) (ht : ((pc + 1 : Nat) : Int) + off = (tgt : Int)) (kt : x ≤ y → W p l e R s m args below meth c H locs cells slots Q (F0 m tgt ls rest)) (kf : ¬ x ≤ y → W p l e R s m args below meth c H locs cells slots Q (F0 m (pc + 1 + 3) ls rest)) : W p l e R s m args below meth c H locs cells slots Q (F0 m pc ls (.long y :: .long x :: rest)) := W.lcmp hexec hb hdg (lv_if_le hexec hb hdg2 ht (fun h => kt ((lg_cmp_le x y).mp h)) (fun h => kf (fun h2 => h ((lg_cmp_le x y).mpr h2))))
end QB
/-- a reading body's end -/
theorem q_ret {s : State} {r : Value} {args : Array Value} : ∀ t : State, t.heap = s.heap → s.WarmedH t.vm → k2_QcV r args s (.returned (some r)) t := fun _ ht _ => ⟨rfl, ht⟩
end
section
/-! Writing methods: the same cells behind them, with other contents. -/
/-- the addresses of a world -/
def q_in (ws : va_W) : Nat → Prop := fun a => ∃ (k : Nat) (e : va_E), ws[k]? = some (a, e)
def q_Pm (D : va_G) (av : List Value) (ws : va_W) (tys : List (ClassId × FieldType)) : Array Value → State → Prop := va_Pc av (fun U => va_P D vwCl ws U.heap ∧ va_K D vwCl tys U ∧ va_D (fun _ => True) ws)
def q_Qm (D : va_G) (A : Nat → Prop) (rv : Option Value) (ws : va_W) : Array Value → State → Outcome → State → Prop := fun _ st o t => o = .returned rv ∧ va_P D vwCl ws t.heap ∧ va_F A st t
theorem q_inD {A : Nat → Prop} {ws : va_W} (h : va_D A ws) : va_D (q_in ws) ws := ⟨h.1, fun k q hk => ⟨k, q.2, hk⟩⟩
/-- cells put at their places -/
def q_put : va_W → List Nat → va_W → va_W
  | ws, i :: is, w :: wc => q_put (ws.set i w) is wc
  | ws, _, _ => ws
theorem q_put_get : ∀ (is : List Nat) (ws wc : va_W) (k : Nat) (q : Nat × va_E), (q_put ws is wc)[k]? = some q → (∃ j : Nat, is[j]? = some k ∧ wc[j]? = some q) ∨ (ws[k]? = some q ∧ ∀ j : Nat, j < wc.length → is[j]? ≠ some k)
  | [], ws, wc, k, q, h => Or.inr ⟨by simpa [q_put] using h, fun j _ => by simp⟩
  | i :: is, ws, [], k, q, h => Or.inr ⟨h, fun j hj => by simp at hj⟩
  | i :: is, ws, w :: wc, k, q, h => by
    rcases q_put_get is (ws.set i w) wc k q h with ⟨j, h1, h2⟩ | ⟨h1, h2⟩
    · exact Or.inl ⟨j + 1, by simpa using h1, by simpa using h2⟩
    · by_cases hk : k = i
      · subst hk
        have hl : k < ws.length := by
          have := (List.getElem?_eq_some_iff.mp h1).1
          simpa using this
        rw [List.getElem?_set_self hl] at h1
        exact Or.inl ⟨0, rfl, h1⟩
      · rw [List.getElem?_set_ne (Ne.symm hk)] at h1
        refine Or.inr ⟨h1, fun j hj => ?_⟩
        cases j with
        | zero => simp; exact fun h => hk h.symm
        | succ j =>
          have := h2 j (by simp at hj; omega)
          simpa using this
theorem q_at {ws wc : va_W} {is : List Nat} (hC : is.map (fun i => ws[i]?) = wc.map some) (j : Nat) (q : Nat × va_E) (hq : wc[j]? = some q) : ∃ i, is[j]? = some i ∧ ws[i]? = some q := by
  have h1 : (is.map (fun i => ws[i]?))[j]? = some (some q) := by rw [hC, List.getElem?_map, hq]; rfl
  rw [List.getElem?_map] at h1
  cases hi : is[j]? with
  | none => rw [hi] at h1; cases h1
  | some i => rw [hi] at h1; exact ⟨i, rfl, Option.some.inj h1⟩
theorem q_join {A : Nat → Prop} {D : va_G} {ws wc wc' : va_W} {H H1 : Heap} (hP : va_P D vwCl ws H) (hD : va_D A ws) (is : List Nat) (hC : is.map (fun i => ws[i]?) = wc.map some) (hadr : wc'.map (·.1) = wc.map (·.1))
    (hk : ∀ q : Nat, q < H.size → ¬ q_in wc q → H1[q]? = H[q]?) (hP1 : va_P D vwCl wc' H1) : va_P D vwCl (q_put ws is wc') H1 ∧ va_D A (q_put ws is wc') := by
  have hlen : wc'.length = wc.length := by simpa using congrArg List.length hadr
  have key : ∀ (k : Nat) (q : Nat × va_E), (q_put ws is wc')[k]? = some q → ∃ q0, ws[k]? = some q0 ∧ q0.1 = q.1 := by
    intro k q hq
    rcases q_put_get is ws wc' k q hq with ⟨j, h1, h2⟩ | ⟨h1, -⟩
    · have hj : j < wc.length := by rw [← hlen]; exact (List.getElem?_eq_some_iff.mp h2).1
      have h3 : wc[j]? = some wc[j] := List.getElem?_eq_getElem hj
      obtain ⟨i, h4, h5⟩ := q_at hC j _ h3
      have h6 : i = k := by rw [h1] at h4; exact (Option.some.inj h4).symm
      subst h6
      refine ⟨_, h5, ?_⟩
      have h7 := congrArg (fun l => l[j]?) hadr
      simp only [List.getElem?_map, h2, h3, Option.map_some] at h7
      exact (Option.some.inj h7).symm
    · exact ⟨q, h1, rfl⟩
  refine ⟨fun k q hq => ?_, fun i j x y hx hy hxy => ?_, fun k q hq => ?_⟩
  · rcases q_put_get is ws wc' k q hq with ⟨j, h1, h2⟩ | ⟨h1, h2⟩
    · exact hP1 j q h2
    · have h3 := hP k q h1
      refine h3.kept (hk q.1 h3.lt ?_)
      rintro ⟨j, e, he⟩
      obtain ⟨i, h4, h5⟩ := q_at hC j _ he
      have h6 := hD.1 k i q (q.1, e) h1 h5 rfl
      subst h6
      exact h2 j (by rw [hlen]; exact (List.getElem?_eq_some_iff.mp he).1) h4
  · obtain ⟨x0, a1, a2⟩ := key i x hx
    obtain ⟨y0, b1, b2⟩ := key j y hy
    exact hD.1 i j x0 y0 a1 b1 (a2.trans (hxy.trans b2.symm))
  · obtain ⟨q0, a1, a2⟩ := key k q hq
    rw [← a2]
    exact hD.2 k q0 a1
section QM
variable {p : Program} {l : Launch} {e : Env} {R : Room} {s : State} {m : MethodId} {args : Array Value} {below : List Frame} {meth : Method} {c : Code} {H : Heap} {locs : List Loc} {cells slots : Nat} {Q : State → Prop}
variable {cc : ByteArray} {pc : Nat} {ls : Array Slot} {rest st0 : List Value} {D : va_G} {A : Nat → Prop} {a : Nat} {tys tysc : List (ClassId × FieldType)} {ws wc wc' wsN : va_W} {H0 : Heap}
theorem q_blindm {av : List Value} : FrameBlind (q_Pm D av ws tys) := fun a U g mk q => by
  obtain ⟨q0, qP, qK, qD⟩ := q
  exact ⟨q0, qP, va_K.moved (u := U) (U := U.calling g mk a) (Vm.Alike.refl U.vm) qK, qD⟩
theorem q_sub {is : List Nat} (hC : is.map (fun i => ws[i]?) = wc.map some) : is.filterMap (fun i => ws[i]?) = wc := by
  have h : is.filterMap (fun i => ws[i]?) = (is.map (fun i => ws[i]?)).filterMap id := by rw [List.filterMap_map]; rfl
  rw [h, hC, List.filterMap_map]
  exact List.filterMap_some
theorem q_afterm {st₀ t T' : State} {L : List Loc} (h0 : st₀.heap = H) (e1 : T'.heap = t.heap) (hP : va_P D vwCl ws H) (hD : va_D A ws) (hS : va_S A H0 H locs) (is : List Nat) (hC : is.map (fun i => ws[i]?) = wc.map some) (hadr : wc'.map (·.1) = wc.map (·.1)) (hL : ∀ q ∈ L, q_in wc q.base) (hP1 : va_P D vwCl wc' t.heap) (hF : va_F (q_in wc) st₀ t) :
    va_P D vwCl (q_put ws is wc') T'.heap ∧ va_D A (q_put ws is wc') ∧ va_S A H0 T'.heap (locs ++ L) := by
  subst h0
  rw [e1]
  obtain ⟨h1, h2⟩ := q_join hP hD is hC hadr (fun q h1 h2 => hF.2 q h1 h2) hP1
  have hin : ∀ q, q_in wc q → A q := by
    rintro q ⟨k, e, hk⟩
    obtain ⟨i, -, h5⟩ := q_at hC k _ hk
    exact hD.2 i _ h5
  refine ⟨h1, h2, Nat.le_trans hS.1 hF.1, fun q h3 h4 => ?_, fun q hq => ?_⟩
  · rw [hF.2 q (Nat.lt_of_lt_of_le h3 hS.1) (fun h => h4 (hin q h))]
    exact hS.2.1 q h3 h4
  · rcases List.mem_append.mp hq with h | h
    · exact hS.2.2 q h
    · exact hin _ (hL q h)
/-- a call of a writing method -/
theorem q_mV {y : MethodName} {bytes : ByteArray} {maxL nL n index : Nat} {ret : Option FieldType} {wsy : List Cond} {rm : Room} {Ts : List Cond} {own C : String} {b : Addr} {As av : List Value} {rv : Option Value} {q : vw_C} {fs : List Value}
    (S : CallFix p m c cc nL s args Ts own) (hM : Met l y wsy rm (q_Pm D av wc tysc) (q_Qm D (q_in wc) rv wc') 0 0 (q_in wc)) (cw : CallW R s args own C index y bytes maxL ret wsy rm 0 0 n)
    (hK : va_K D vwCl tys s) (hP : va_P D vwCl ws H) (hD : va_D A ws) (hS : va_S A H0 H locs) (is js : List Nat) (ci q0 : Nat) (hC : is.map (fun i => ws[i]?) = wc.map some) (hnd : va_nd is = true) (hj : js.filterMap (fun i => tys[i]?) = tysc) (hav : .ref b :: As = av) (hc : vwCl[ci]? = some q) (hCn : q.1 = C) (he : ws[q0]? = some (b, .inr (ci, fs))) (hadr : wc'.map (·.1) = wc.map (·.1))
    (hn : As.length = n) (hl : ls.size = nL) (hst : st0 = As.reverse ++ .ref b :: rest) (hW : (rest.map fun v => v.category).sum ≤ 8) (hf : cells ≤ R.cells ∧ slots ≤ R.slots) (hdg : decode cc pc = .ok (.invokevirtual index, 3)) (hw : q_put ws is wc' = wsN)
    (kk : ∀ (H1 : Heap) (locs1 : List Loc), va_P D vwCl wsN H1 → va_D A wsN → va_S A H0 H1 locs1 → W p l e R s m args below meth c H1 locs1 cells slots Q (F0 m (pc + 3) ls (rv.toList ++ rest))) : W p l e R s m args below meth c H locs cells slots Q (F0 m pc ls st0) := by
  subst hav
  subst hCn
  subst hw
  intro T hT X
  have hp : PreV s H q.1 b (q_Pm D (.ref b :: As) wc tysc) As := ⟨q_blindm, va_recv hK hP hc he, fun U hU hW => ⟨rfl, by rw [hU]; exact hP.sub is (q_sub hC), va_K.moved hW.alike (hK.sub js hj), (hD.sub is hnd hC).weaken (fun _ _ _ _ => trivial)⟩⟩
  obtain ⟨v, st₀, t, T', L, h0, X', hL, e1, ⟨hv, hP1, hF⟩, st⟩ := W.runV (locs := locs) S hM cw hp rfl hn hl hst (lv_room hW) hdg hf T hT X
  cases hv
  obtain ⟨a1, a2, a3⟩ := q_afterm h0 e1 hP hD hS is hC hadr hL hP1 hF
  obtain ⟨t2, b1, b2⟩ := kk T'.heap (locs ++ L) a1 a2 a3 T' rfl X'
  exact ⟨t2, st t2 b1, b2⟩
theorem q_mS {y : MethodName} {bytes : ByteArray} {maxL nL n index : Nat} {ret : Option FieldType} {wsy : List Cond} {rm : Room} {Ts : List Cond} {own : String} {As av : List Value} {rv : Option Value}
    (S : CallFix p m c cc nL s args Ts own) (hM : Met l y wsy rm (q_Pm D av wc tysc) (q_Qm D (q_in wc) rv wc') 0 0 (q_in wc)) (cw : CallB R s args own index y bytes maxL ret wsy rm 0 0 n ∧ (Cond.static y).before args s = true)
    (hK : va_K D vwCl tys s) (hP : va_P D vwCl ws H) (hD : va_D A ws) (hS : va_S A H0 H locs) (is js : List Nat) (hC : is.map (fun i => ws[i]?) = wc.map some) (hnd : va_nd is = true) (hj : js.filterMap (fun i => tys[i]?) = tysc) (hav : As = av) (hadr : wc'.map (·.1) = wc.map (·.1))
    (hn : As.length = n) (hl : ls.size = nL) (hst : st0 = As.reverse ++ rest) (hW : (rest.map fun v => v.category).sum ≤ 8) (hf : cells ≤ R.cells ∧ slots ≤ R.slots) (hdg : decode cc pc = .ok (.invokestatic index, 3)) (hw : q_put ws is wc' = wsN)
    (kk : ∀ (H1 : Heap) (locs1 : List Loc), va_P D vwCl wsN H1 → va_D A wsN → va_S A H0 H1 locs1 → W p l e R s m args below meth c H1 locs1 cells slots Q (F0 m (pc + 3) ls (rv.toList ++ rest))) : W p l e R s m args below meth c H locs cells slots Q (F0 m pc ls st0) := by
  subst hav
  subst hw
  intro T hT X
  have hp : PreS s H (q_Pm D As wc tysc) As := ⟨q_blindm, fun U hU hW => ⟨rfl, by rw [hU]; exact hP.sub is (q_sub hC), va_K.moved hW.alike (hK.sub js hj), (hD.sub is hnd hC).weaken (fun _ _ _ _ => trivial)⟩⟩
  obtain ⟨v, st₀, t, T', L, h0, X', hL, e1, ⟨hv, hP1, hF⟩, st⟩ := W.runS (locs := locs) S hM cw hp rfl hn hl hst (lv_room hW) hdg hf T hT X
  cases hv
  obtain ⟨a1, a2, a3⟩ := q_afterm h0 e1 hP hD hS is hC hadr hL hP1 hF
  obtain ⟨t2, b1, b2⟩ := kk T'.heap (locs ++ L) a1 a2 a3 T' rfl X'
  exact ⟨t2, st t2 b1, b2⟩
end QM
/-- a writing body's end -/
theorem q_retm {s : State} {D : va_G} {A : Nat → Prop} {H : Heap} {locs : List Loc} {rv : Option Value} {ws : va_W} {args : Array Value} (hP : va_P D vwCl ws H) (hS : va_S A s.heap H locs) : ∀ t : State, t.heap = H → s.WarmedH t.vm → q_Qm D A rv ws args s (.returned rv) t := fun t ht _ => ⟨rfl, by rw [ht]; exact hP, hS.F ht⟩
theorem updN_lt {g : Nat → Nat} {k v N : Nat} (h : ∀ j, g j < N) (hv : v < N) : ∀ j, updN g k v j < N := fun j => by
  unfold updN
  split
  · exact hv
  · exact h j
end
section
/-! Sites: what its reading methods answer -/
def j_turn (x y : Nat → Int32) (a b : Nat) (px py : Int32) : Int32 := (x b - x a) * (py - y a) - (y b - y a) * (px - x a)
def j_sq (x y : Nat → Int32) (k : Nat) (px py : Int32) : Int32 := (x k - px) * (x k - px) + (y k - py) * (y k - py)
def j_num (x y : Nat → Int32) (n : Nat) (px py : Int32) (k : Nat) : Int32 :=
  if k < n then (if x k = px then (if y k = py then nI k else j_num x y n px py (k + 1)) else j_num x y n px py (k + 1)) else -1
termination_by n - k
def j_near (x y : Nat → Int32) (n : Nat) (px py : Int32) (b k : Nat) : Nat :=
  if k < n then (if j_sq x y b px py ≤ j_sq x y k px py then j_near x y n px py b (k + 1) else j_near x y n px py k (k + 1)) else b
termination_by n - k
set_option maxHeartbeats 4000000 in
set_option maxRecDepth 100000 in
theorem c_X2_turn (l : Launch) (dC : Nat → ClassId) (dI : Nat → Nat → Nat) (h0 xa ya : Nat) (cI : ClassId) (x y : Nat → Int32) (n : Int32) (a b : Nat) (px py : Int32) (la : a < 20) (lb : b < 20) : Met l yX2_turn wsX2_turn ({ frames := 0, cells := 0, slots := 0, locals := 0 }) (q_Pc (dC, dI) [.ref h0, .int (nI a), .int (nI b), .int px, .int py] [(h0, .inr (2, [.ref xa, .ref ya, .int n])), (xa, .inl (cI, 20, .inl x)), (ya, .inl (cI, 20, .inl y))] [(cI, .int)]) (k2_QcV (.int (j_turn x y a b px py))) 0 0 (fun _ => False) := by
  refine Met.ofW (cc := cX2_turn) (maxL := 5) (ret := (some .int)) (by decide) rfl ?_
  intro p e s m args below meth c s₁ B hml hv
  obtain ⟨rfl, hP, hK⟩ := hv
  have hx := B.exec
  have hb := B.bytes
  have hr := B.returns
  have hts := atoms_spec (ws := wsX2_turn) B.pre
  have hown : s.vm.findClass RX2 = some m.cls := findClass_of_methodNamed B.named
  have hlocks := B.notSynchronized
  have hP : va_P (dC, dI) vwCl [(h0, .inr (2, [.ref xa, .ref ya, .int n])), (xa, .inl (cI, 20, .inl x)), (ya, .inl (cI, 20, .inl y))] s.heap := hP
  have hl := lv_entry ([.ref h0, .int (nI a), .int (nI b), .int px, .int py]) (n := 5) (Nat.le_of_ble_eq_true rfl)
  rw [lg_entry_eq]
  generalize (lg_sl ([.ref h0, .int (nI a), .int (nI b), .int px, .int py]) ++ List.replicate (5 - (lg_sl ([.ref h0, .int (nI a), .int (nI b), .int px, .int py])).length) Slot.unset).toArray = ls at hl ⊢
  have hl : lv_has ls 5 [(0, .ref h0), (1, .int (nI a)), (2, .int (nI b)), (3, .int px), (4, .int py)] := hl
  refine lv_aload_n hx hb dX2_turn_0 rfl (lv_at hl 0 rfl) ?_
  refine va_get (D := (dC, dI)) (ci := 2) (v := .ref xa) (C := RX2) (T := TX2) (N := 3) hx hb hts (by decide +kernel) hown hK hP 0 rfl rfl 0 (by decide) (hts (.fieldLink RX2 9 "CircleCells$Sites" "x" "[I") (by decide +kernel)) (fun _ h9 => h9) rfl dX2_turn_1 ?_
  refine lv_iload_n hx hb dX2_turn_4 rfl (lv_at hl 2 rfl) ?_
  refine q_iald hx hb hK hP 1 0 rfl rfl (b) rfl (by omega) (by decide) dX2_turn_5 ?_
  refine lv_aload_n hx hb dX2_turn_6 rfl (lv_at hl 0 rfl) ?_
  refine va_get (D := (dC, dI)) (ci := 2) (v := .ref xa) (C := RX2) (T := TX2) (N := 3) hx hb hts (by decide +kernel) hown hK hP 0 rfl rfl 0 (by decide) (hts (.fieldLink RX2 9 "CircleCells$Sites" "x" "[I") (by decide +kernel)) (fun _ h9 => h9) rfl dX2_turn_7 ?_
  refine lv_iload_n hx hb dX2_turn_10 rfl (lv_at hl 1 rfl) ?_
  refine q_iald hx hb hK hP 1 0 rfl rfl (a) rfl (by omega) (by decide) dX2_turn_11 ?_
  refine lv_isub hx hb dX2_turn_12 ?_
  refine lv_iload hx hb dX2_turn_13 (lv_at hl 4 rfl) ?_
  refine lv_aload_n hx hb dX2_turn_15 rfl (lv_at hl 0 rfl) ?_
  refine va_get (D := (dC, dI)) (ci := 2) (v := .ref ya) (C := RX2) (T := TX2) (N := 3) hx hb hts (by decide +kernel) hown hK hP 0 rfl rfl 1 (by decide) (hts (.fieldLink RX2 15 "CircleCells$Sites" "y" "[I") (by decide +kernel)) (fun _ h9 => h9) rfl dX2_turn_16 ?_
  refine lv_iload_n hx hb dX2_turn_19 rfl (lv_at hl 1 rfl) ?_
  refine q_iald hx hb hK hP 2 0 rfl rfl (a) rfl (by omega) (by decide) dX2_turn_20 ?_
  refine lv_isub hx hb dX2_turn_21 ?_
  refine lv_imul hx hb dX2_turn_22 ?_
  refine lv_aload_n hx hb dX2_turn_23 rfl (lv_at hl 0 rfl) ?_
  refine va_get (D := (dC, dI)) (ci := 2) (v := .ref ya) (C := RX2) (T := TX2) (N := 3) hx hb hts (by decide +kernel) hown hK hP 0 rfl rfl 1 (by decide) (hts (.fieldLink RX2 15 "CircleCells$Sites" "y" "[I") (by decide +kernel)) (fun _ h9 => h9) rfl dX2_turn_24 ?_
  refine lv_iload_n hx hb dX2_turn_27 rfl (lv_at hl 2 rfl) ?_
  refine q_iald hx hb hK hP 2 0 rfl rfl (b) rfl (by omega) (by decide) dX2_turn_28 ?_
  refine lv_aload_n hx hb dX2_turn_29 rfl (lv_at hl 0 rfl) ?_
  refine va_get (D := (dC, dI)) (ci := 2) (v := .ref ya) (C := RX2) (T := TX2) (N := 3) hx hb hts (by decide +kernel) hown hK hP 0 rfl rfl 1 (by decide) (hts (.fieldLink RX2 15 "CircleCells$Sites" "y" "[I") (by decide +kernel)) (fun _ h9 => h9) rfl dX2_turn_30 ?_
  refine lv_iload_n hx hb dX2_turn_33 rfl (lv_at hl 1 rfl) ?_
  refine q_iald hx hb hK hP 2 0 rfl rfl (a) rfl (by omega) (by decide) dX2_turn_34 ?_
  refine lv_isub hx hb dX2_turn_35 ?_
  refine lv_iload_n hx hb dX2_turn_36 rfl (lv_at hl 3 rfl) ?_
  refine lv_aload_n hx hb dX2_turn_37 rfl (lv_at hl 0 rfl) ?_
  refine va_get (D := (dC, dI)) (ci := 2) (v := .ref xa) (C := RX2) (T := TX2) (N := 3) hx hb hts (by decide +kernel) hown hK hP 0 rfl rfl 0 (by decide) (hts (.fieldLink RX2 9 "CircleCells$Sites" "x" "[I") (by decide +kernel)) (fun _ h9 => h9) rfl dX2_turn_38 ?_
  refine lv_iload_n hx hb dX2_turn_41 rfl (lv_at hl 1 rfl) ?_
  refine q_iald hx hb hK hP 1 0 rfl rfl (a) rfl (by omega) (by decide) dX2_turn_42 ?_
  refine lv_isub hx hb dX2_turn_43 ?_
  refine lv_imul hx hb dX2_turn_44 ?_
  refine lv_isub hx hb dX2_turn_45 ?_
  exact W.iret (v := (((x b) - (x a)) * (py - (y a))) - (((y b) - (y a)) * (px - (x a)))) hx hb hr q_ret (fun _ h => nomatch h) dX2_turn_46
set_option maxHeartbeats 4000000 in
set_option maxRecDepth 100000 in
theorem c_X2_turn_ (l : Launch) (dC : Nat → ClassId) (dI : Nat → Nat → Nat) (h0 xa ya : Nat) (cI : ClassId) (x y : Nat → Int32) (n : Int32) (a b d : Nat) (la : a < 20) (lb : b < 20) (ld : d < 20) : Met l yX2_turn_ wsX2_turn_ ({ frames := 1, cells := 0, slots := 0, locals := 24 }) (q_Pc (dC, dI) [.ref h0, .int (nI a), .int (nI b), .int (nI d)] [(h0, .inr (2, [.ref xa, .ref ya, .int n])), (xa, .inl (cI, 20, .inl x)), (ya, .inl (cI, 20, .inl y))] [(cI, .int)]) (k2_QcV (.int (j_turn x y a b (x d) (y d)))) 0 0 (fun _ => False) := by
  refine Met.ofW (cc := cX2_turn_) (maxL := 4) (ret := (some .int)) (by decide) rfl ?_
  intro p e s m args below meth c s₁ B hml hv
  obtain ⟨rfl, hP, hK⟩ := hv
  have hx := B.exec
  have hb := B.bytes
  have hr := B.returns
  have hts := atoms_spec (ws := wsX2_turn_) B.pre
  have hown : s.vm.findClass RX2 = some m.cls := findClass_of_methodNamed B.named
  have hlocks := B.notSynchronized
  have hP : va_P (dC, dI) vwCl [(h0, .inr (2, [.ref xa, .ref ya, .int n])), (xa, .inl (cI, 20, .inl x)), (ya, .inl (cI, 20, .inl y))] s.heap := hP
  have hl := lv_entry ([.ref h0, .int (nI a), .int (nI b), .int (nI d)]) (n := 4) (Nat.le_of_ble_eq_true rfl)
  rw [lg_entry_eq]
  generalize (lg_sl ([.ref h0, .int (nI a), .int (nI b), .int (nI d)]) ++ List.replicate (4 - (lg_sl ([.ref h0, .int (nI a), .int (nI b), .int (nI d)])).length) Slot.unset).toArray = ls at hl ⊢
  have hl : lv_has ls 4 [(0, .ref h0), (1, .int (nI a)), (2, .int (nI b)), (3, .int (nI d))] := hl
  refine lv_aload_n hx hb dX2_turn__0 rfl (lv_at hl 0 rfl) ?_
  refine lv_iload_n hx hb dX2_turn__1 rfl (lv_at hl 1 rfl) ?_
  refine lv_iload_n hx hb dX2_turn__2 rfl (lv_at hl 2 rfl) ?_
  refine lv_aload_n hx hb dX2_turn__3 rfl (lv_at hl 0 rfl) ?_
  refine va_get (D := (dC, dI)) (ci := 2) (v := .ref xa) (C := RX2) (T := TX2) (N := 3) hx hb hts (by decide +kernel) hown hK hP 0 rfl rfl 0 (by decide) (hts (.fieldLink RX2 9 "CircleCells$Sites" "x" "[I") (by decide +kernel)) (fun _ h9 => h9) rfl dX2_turn__4 ?_
  refine lv_iload_n hx hb dX2_turn__7 rfl (lv_at hl 3 rfl) ?_
  refine q_iald hx hb hK hP 1 0 rfl rfl (d) rfl (by omega) (by decide) dX2_turn__8 ?_
  refine lv_aload_n hx hb dX2_turn__9 rfl (lv_at hl 0 rfl) ?_
  refine va_get (D := (dC, dI)) (ci := 2) (v := .ref ya) (C := RX2) (T := TX2) (N := 3) hx hb hts (by decide +kernel) hown hK hP 0 rfl rfl 1 (by decide) (hts (.fieldLink RX2 15 "CircleCells$Sites" "y" "[I") (by decide +kernel)) (fun _ h9 => h9) rfl dX2_turn__10 ?_
  refine lv_iload_n hx hb dX2_turn__13 rfl (lv_at hl 3 rfl) ?_
  refine q_iald hx hb hK hP 2 0 rfl rfl (d) rfl (by omega) (by decide) dX2_turn__14 ?_
  refine q_cV (As := [.int (nI a), .int (nI b), .int (x d), .int (y d)]) (rest := []) ⟨hx, hb, hml, hown, hts⟩ (c_X2_turn l dC dI h0 xa ya cI x y n a b (x d) (y d) (by omega) (by omega)) (cwV 4 hts gX2_turn__X2_turn rfl rfl rfl (by decide +kernel) ⟨Nat.le_of_ble_eq_true rfl, Nat.le_of_ble_eq_true rfl⟩) (q_pV hK hP [0, 1, 2] [0] 2 0 rfl rfl rfl rfl rfl rfl) rfl hl.1 rfl (Nat.le_of_ble_eq_true rfl) ⟨Nat.zero_le _, Nat.zero_le _⟩ dX2_turn__15 ?_
  exact W.iret (v := j_turn x y a b (x d) (y d)) hx hb hr q_ret (fun _ h => nomatch h) dX2_turn__18
set_option maxHeartbeats 4000000 in
set_option maxRecDepth 100000 in
theorem c_X2_squareTo (l : Launch) (dC : Nat → ClassId) (dI : Nat → Nat → Nat) (h0 xa ya : Nat) (cI : ClassId) (x y : Nat → Int32) (n : Int32) (k : Nat) (px py : Int32) (lk : k < 20) : Met l yX2_squareTo wsX2_squareTo ({ frames := 0, cells := 0, slots := 0, locals := 0 }) (q_Pc (dC, dI) [.ref h0, .int (nI k), .int px, .int py] [(h0, .inr (2, [.ref xa, .ref ya, .int n])), (xa, .inl (cI, 20, .inl x)), (ya, .inl (cI, 20, .inl y))] [(cI, .int)]) (k2_QcV (.int (j_sq x y k px py))) 0 0 (fun _ => False) := by
  refine Met.ofW (cc := cX2_squareTo) (maxL := 6) (ret := (some .int)) (by decide) rfl ?_
  intro p e s m args below meth c s₁ B hml hv
  obtain ⟨rfl, hP, hK⟩ := hv
  have hx := B.exec
  have hb := B.bytes
  have hr := B.returns
  have hts := atoms_spec (ws := wsX2_squareTo) B.pre
  have hown : s.vm.findClass RX2 = some m.cls := findClass_of_methodNamed B.named
  have hlocks := B.notSynchronized
  have hP : va_P (dC, dI) vwCl [(h0, .inr (2, [.ref xa, .ref ya, .int n])), (xa, .inl (cI, 20, .inl x)), (ya, .inl (cI, 20, .inl y))] s.heap := hP
  have hl := lv_entry ([.ref h0, .int (nI k), .int px, .int py]) (n := 6) (Nat.le_of_ble_eq_true rfl)
  rw [lg_entry_eq]
  generalize (lg_sl ([.ref h0, .int (nI k), .int px, .int py]) ++ List.replicate (6 - (lg_sl ([.ref h0, .int (nI k), .int px, .int py])).length) Slot.unset).toArray = ls at hl ⊢
  have hl : lv_has ls 6 [(0, .ref h0), (1, .int (nI k)), (2, .int px), (3, .int py)] := hl
  refine lv_aload_n hx hb dX2_squareTo_0 rfl (lv_at hl 0 rfl) ?_
  refine va_get (D := (dC, dI)) (ci := 2) (v := .ref xa) (C := RX2) (T := TX2) (N := 3) hx hb hts (by decide +kernel) hown hK hP 0 rfl rfl 0 (by decide) (hts (.fieldLink RX2 9 "CircleCells$Sites" "x" "[I") (by decide +kernel)) (fun _ h9 => h9) rfl dX2_squareTo_1 ?_
  refine lv_iload_n hx hb dX2_squareTo_4 rfl (lv_at hl 1 rfl) ?_
  refine q_iald hx hb hK hP 1 0 rfl rfl (k) rfl (by omega) (by decide) dX2_squareTo_5 ?_
  refine lv_iload_n hx hb dX2_squareTo_6 rfl (lv_at hl 2 rfl) ?_
  refine lv_isub hx hb dX2_squareTo_7 ?_
  refine lv_istore (lv' := [(4, .int ((x k) - px)), (0, .ref h0), (1, .int (nI k)), (2, .int px), (3, .int py)]) hx hb dX2_squareTo_8 hl (by decide) rfl (fun ls hl => ?_)
  refine lv_aload_n hx hb dX2_squareTo_10 rfl (lv_at hl 1 rfl) ?_
  refine va_get (D := (dC, dI)) (ci := 2) (v := .ref ya) (C := RX2) (T := TX2) (N := 3) hx hb hts (by decide +kernel) hown hK hP 0 rfl rfl 1 (by decide) (hts (.fieldLink RX2 15 "CircleCells$Sites" "y" "[I") (by decide +kernel)) (fun _ h9 => h9) rfl dX2_squareTo_11 ?_
  refine lv_iload_n hx hb dX2_squareTo_14 rfl (lv_at hl 2 rfl) ?_
  refine q_iald hx hb hK hP 2 0 rfl rfl (k) rfl (by omega) (by decide) dX2_squareTo_15 ?_
  refine lv_iload_n hx hb dX2_squareTo_16 rfl (lv_at hl 4 rfl) ?_
  refine lv_isub hx hb dX2_squareTo_17 ?_
  refine lv_istore (lv' := [(5, .int ((y k) - py)), (4, .int ((x k) - px)), (0, .ref h0), (1, .int (nI k)), (2, .int px), (3, .int py)]) hx hb dX2_squareTo_18 hl (by decide) rfl (fun ls hl => ?_)
  refine lv_iload hx hb dX2_squareTo_20 (lv_at hl 1 rfl) ?_
  refine lv_iload hx hb dX2_squareTo_22 (lv_at hl 1 rfl) ?_
  refine lv_imul hx hb dX2_squareTo_24 ?_
  refine lv_iload hx hb dX2_squareTo_25 (lv_at hl 0 rfl) ?_
  refine lv_iload hx hb dX2_squareTo_27 (lv_at hl 0 rfl) ?_
  refine lv_imul hx hb dX2_squareTo_29 ?_
  refine lv_iadd hx hb dX2_squareTo_30 ?_
  exact W.iret (v := (((x k) - px) * ((x k) - px)) + (((y k) - py) * ((y k) - py))) hx hb hr q_ret (fun _ h => nomatch h) dX2_squareTo_31
set_option maxHeartbeats 4000000 in
set_option maxRecDepth 100000 in
theorem c_X2_numberAt (l : Launch) (dC : Nat → ClassId) (dI : Nat → Nat → Nat) (h0 xa ya : Nat) (cI : ClassId) (x y : Nat → Int32) (n : Nat) (px py : Int32) (ln : n ≤ 20) : Met l yX2_numberAt wsX2_numberAt ({ frames := 0, cells := 0, slots := 0, locals := 0 }) (q_Pc (dC, dI) [.ref h0, .int px, .int py] [(h0, .inr (2, [.ref xa, .ref ya, .int (nI n)])), (xa, .inl (cI, 20, .inl x)), (ya, .inl (cI, 20, .inl y))] [(cI, .int)]) (k2_QcV (.int (j_num x y n px py 0))) 0 0 (fun _ => False) := by
  refine Met.ofW (cc := cX2_numberAt) (maxL := 4) (ret := (some .int)) (by decide) rfl ?_
  intro p e s m args below meth c s₁ B hml hv
  obtain ⟨rfl, hP, hK⟩ := hv
  have hx := B.exec
  have hb := B.bytes
  have hr := B.returns
  have hts := atoms_spec (ws := wsX2_numberAt) B.pre
  have hown : s.vm.findClass RX2 = some m.cls := findClass_of_methodNamed B.named
  have hlocks := B.notSynchronized
  have hP : va_P (dC, dI) vwCl [(h0, .inr (2, [.ref xa, .ref ya, .int (nI n)])), (xa, .inl (cI, 20, .inl x)), (ya, .inl (cI, 20, .inl y))] s.heap := hP
  have hl := lv_entry ([.ref h0, .int px, .int py]) (n := 4) (Nat.le_of_ble_eq_true rfl)
  rw [lg_entry_eq]
  generalize (lg_sl ([.ref h0, .int px, .int py]) ++ List.replicate (4 - (lg_sl ([.ref h0, .int px, .int py])).length) Slot.unset).toArray = ls at hl ⊢
  have hl : lv_has ls 4 [(0, .ref h0), (1, .int px), (2, .int py)] := hl
  refine lv_iconst (v := nI 0) hx hb dX2_numberAt_0 (by decide) ?_
  refine lv_istore_n (lv' := [(3, .int (nI 0)), (0, .ref h0), (1, .int px), (2, .int py)]) hx hb dX2_numberAt_1 rfl hl (by decide) rfl (fun ls hl => ?_)
  have loop : ∀ (f : Nat) (k : Nat) (R : Int32) (ls : Array Slot), (k ≤ n) → (n + 1 ≤ k + f) → j_num x y n px py k = R → lv_has ls 4 [(0, .ref h0), (1, .int px), (2, .int py), (3, .int (nI k))] → W p l e (headSpec wsX2_numberAt ({ frames := 0, cells := 0, slots := 0, locals := 0 })).room s m ([.ref h0, .int px, .int py] : List Value).toArray below meth c s.heap [] 0 0 (MQ below (k2_QcV (.int R)) ([.ref h0, .int px, .int py] : List Value).toArray s 0 0 (fun _ => False)) (F0 m 2 ls []) := by
    intro f
    induction f with
    | zero =>
      intro k R ls h1 h2
      omega
    | succ f ih_loop =>
      intro k R ls h1 h2 hF hl
      refine lv_iload_n hx hb dX2_numberAt_2 rfl (lv_at hl 3 rfl) ?_
      refine lv_aload_n hx hb dX2_numberAt_3 rfl (lv_at hl 0 rfl) ?_
      refine va_get (D := (dC, dI)) (ci := 2) (v := .int (nI n)) (C := RX2) (T := TX2) (N := 3) hx hb hts (by decide +kernel) hown hK hP 0 rfl rfl 2 (by decide) (hts (.fieldLink RX2 18 "CircleCells$Sites" "size" "I") (by decide +kernel)) (fun _ h9 => h9) rfl dX2_numberAt_4 ?_
      refine q_icmp_ge (tgt := 38) (by omega) (by omega) hx hb dX2_numberAt_7 (by decide) (fun c7 => ?_) (fun c7 => ?_)
      · rw [j_num, if_neg (by omega)] at hF
        subst hF
        refine lv_iconst (v := (-1)) hx hb dX2_numberAt_38 (by decide) ?_
        exact W.iret (v := (-1)) hx hb hr q_ret (fun _ h => nomatch h) dX2_numberAt_39
      · rw [j_num, if_pos c7] at hF
        refine lv_aload_n hx hb dX2_numberAt_10 rfl (lv_at hl 0 rfl) ?_
        refine va_get (D := (dC, dI)) (ci := 2) (v := .ref xa) (C := RX2) (T := TX2) (N := 3) hx hb hts (by decide +kernel) hown hK hP 0 rfl rfl 0 (by decide) (hts (.fieldLink RX2 9 "CircleCells$Sites" "x" "[I") (by decide +kernel)) (fun _ h9 => h9) rfl dX2_numberAt_11 ?_
        refine lv_iload_n hx hb dX2_numberAt_14 rfl (lv_at hl 3 rfl) ?_
        refine q_iald hx hb hK hP 1 0 rfl rfl (k) rfl (by omega) (by decide) dX2_numberAt_15 ?_
        refine lv_iload_n hx hb dX2_numberAt_16 rfl (lv_at hl 1 rfl) ?_
        refine lv_icmp_ne (tgt := 32) hx hb dX2_numberAt_17 (by decide) (fun c17 => ?_) (fun c17 => ?_)
        · rw [if_neg c17] at hF
          refine lv_iinc (v := nI (k + 1)) (lv' := [(3, .int (nI (k + 1))), (0, .ref h0), (1, .int px), (2, .int py)]) hx hb dX2_numberAt_32 hl (k := 3) rfl (by rw [show Int32.ofInt 1 = 1 from rfl]; exact nI_1 _) (by decide) rfl (fun ls hl => ?_)
          refine lv_goto (tgt := 2) hx hb dX2_numberAt_35 (by decide) ?_
          exact ih_loop (k + 1) R ls (by omega) (by omega) hF (lv_sub hl [1, 2, 3, 0] rfl)
        · rw [if_pos c17] at hF
          refine lv_aload_n hx hb dX2_numberAt_20 rfl (lv_at hl 0 rfl) ?_
          refine va_get (D := (dC, dI)) (ci := 2) (v := .ref ya) (C := RX2) (T := TX2) (N := 3) hx hb hts (by decide +kernel) hown hK hP 0 rfl rfl 1 (by decide) (hts (.fieldLink RX2 15 "CircleCells$Sites" "y" "[I") (by decide +kernel)) (fun _ h9 => h9) rfl dX2_numberAt_21 ?_
          refine lv_iload_n hx hb dX2_numberAt_24 rfl (lv_at hl 3 rfl) ?_
          refine q_iald hx hb hK hP 2 0 rfl rfl (k) rfl (by omega) (by decide) dX2_numberAt_25 ?_
          refine lv_iload_n hx hb dX2_numberAt_26 rfl (lv_at hl 2 rfl) ?_
          refine lv_icmp_ne (tgt := 32) hx hb dX2_numberAt_27 (by decide) (fun c27 => ?_) (fun c27 => ?_)
          · rw [if_neg c27] at hF
            refine lv_iinc (v := nI (k + 1)) (lv' := [(3, .int (nI (k + 1))), (0, .ref h0), (1, .int px), (2, .int py)]) hx hb dX2_numberAt_32 hl (k := 3) rfl (by rw [show Int32.ofInt 1 = 1 from rfl]; exact nI_1 _) (by decide) rfl (fun ls hl => ?_)
            refine lv_goto (tgt := 2) hx hb dX2_numberAt_35 (by decide) ?_
            exact ih_loop (k + 1) R ls (by omega) (by omega) hF (lv_sub hl [1, 2, 3, 0] rfl)
          · rw [if_pos c27] at hF
            subst hF
            refine lv_iload_n hx hb dX2_numberAt_30 rfl (lv_at hl 3 rfl) ?_
            exact W.iret (v := nI k) hx hb hr q_ret (fun _ h => nomatch h) dX2_numberAt_31
  exact loop (n + 1) 0 _ ls (by omega) (by omega) rfl (lv_sub hl [1, 2, 3, 0] rfl)
set_option maxHeartbeats 4000000 in
set_option maxRecDepth 100000 in
theorem c_X2_closestTo (l : Launch) (dC : Nat → ClassId) (dI : Nat → Nat → Nat) (h0 xa ya : Nat) (cI : ClassId) (x y : Nat → Int32) (n : Nat) (px py : Int32) (l0 : 0 < n) (ln : n ≤ 20) : Met l yX2_closestTo wsX2_closestTo ({ frames := 1, cells := 0, slots := 0, locals := 25 }) (q_Pc (dC, dI) [.ref h0, .int px, .int py] [(h0, .inr (2, [.ref xa, .ref ya, .int (nI n)])), (xa, .inl (cI, 20, .inl x)), (ya, .inl (cI, 20, .inl y))] [(cI, .int)]) (k2_QcV (.int (nI (j_near x y n px py 0 1)))) 0 0 (fun _ => False) := by
  refine Met.ofW (cc := cX2_closestTo) (maxL := 5) (ret := (some .int)) (by decide) rfl ?_
  intro p e s m args below meth c s₁ B hml hv
  obtain ⟨rfl, hP, hK⟩ := hv
  have hx := B.exec
  have hb := B.bytes
  have hr := B.returns
  have hts := atoms_spec (ws := wsX2_closestTo) B.pre
  have hown : s.vm.findClass RX2 = some m.cls := findClass_of_methodNamed B.named
  have hlocks := B.notSynchronized
  have hP : va_P (dC, dI) vwCl [(h0, .inr (2, [.ref xa, .ref ya, .int (nI n)])), (xa, .inl (cI, 20, .inl x)), (ya, .inl (cI, 20, .inl y))] s.heap := hP
  have hl := lv_entry ([.ref h0, .int px, .int py]) (n := 5) (Nat.le_of_ble_eq_true rfl)
  rw [lg_entry_eq]
  generalize (lg_sl ([.ref h0, .int px, .int py]) ++ List.replicate (5 - (lg_sl ([.ref h0, .int px, .int py])).length) Slot.unset).toArray = ls at hl ⊢
  have hl : lv_has ls 5 [(0, .ref h0), (1, .int px), (2, .int py)] := hl
  refine lv_iconst (v := nI 0) hx hb dX2_closestTo_0 (by decide) ?_
  refine lv_istore_n (lv' := [(3, .int (nI 0)), (0, .ref h0), (1, .int px), (2, .int py)]) hx hb dX2_closestTo_1 rfl hl (by decide) rfl (fun ls hl => ?_)
  refine lv_iconst (v := nI 1) hx hb dX2_closestTo_2 (by decide) ?_
  refine lv_istore (lv' := [(4, .int (nI 1)), (3, .int (nI 0)), (0, .ref h0), (1, .int px), (2, .int py)]) hx hb dX2_closestTo_3 hl (by decide) rfl (fun ls hl => ?_)
  have loop : ∀ (f : Nat) (b : Nat) (k : Nat) (R : Nat) (ls : Array Slot), (k ≤ n) → (n + 1 ≤ k + f) → (b < n) → j_near x y n px py b k = R → lv_has ls 5 [(0, .ref h0), (1, .int px), (2, .int py), (3, .int (nI b)), (4, .int (nI k))] → W p l e (headSpec wsX2_closestTo ({ frames := 1, cells := 0, slots := 0, locals := 25 })).room s m ([.ref h0, .int px, .int py] : List Value).toArray below meth c s.heap [] 0 0 (MQ below (k2_QcV (.int (nI R))) ([.ref h0, .int px, .int py] : List Value).toArray s 0 0 (fun _ => False)) (F0 m 5 ls []) := by
    intro f
    induction f with
    | zero =>
      intro b k R ls h1 h2 h3
      omega
    | succ f ih_loop =>
      intro b k R ls h1 h2 h3 hF hl
      refine lv_iload hx hb dX2_closestTo_5 (lv_at hl 4 rfl) ?_
      refine lv_aload_n hx hb dX2_closestTo_7 rfl (lv_at hl 0 rfl) ?_
      refine va_get (D := (dC, dI)) (ci := 2) (v := .int (nI n)) (C := RX2) (T := TX2) (N := 3) hx hb hts (by decide +kernel) hown hK hP 0 rfl rfl 2 (by decide) (hts (.fieldLink RX2 18 "CircleCells$Sites" "size" "I") (by decide +kernel)) (fun _ h9 => h9) rfl dX2_closestTo_8 ?_
      refine q_icmp_ge (tgt := 41) (by omega) (by omega) hx hb dX2_closestTo_11 (by decide) (fun c11 => ?_) (fun c11 => ?_)
      · rw [j_near, if_neg (by omega)] at hF
        subst hF
        refine lv_iload_n hx hb dX2_closestTo_41 rfl (lv_at hl 3 rfl) ?_
        exact W.iret (v := nI b) hx hb hr q_ret (fun _ h => nomatch h) dX2_closestTo_42
      · rw [j_near, if_pos c11] at hF
        refine lv_aload_n hx hb dX2_closestTo_14 rfl (lv_at hl 0 rfl) ?_
        refine lv_iload hx hb dX2_closestTo_15 (lv_at hl 4 rfl) ?_
        refine lv_iload_n hx hb dX2_closestTo_17 rfl (lv_at hl 1 rfl) ?_
        refine lv_iload_n hx hb dX2_closestTo_18 rfl (lv_at hl 2 rfl) ?_
        refine q_cV (As := [.int (nI k), .int px, .int py]) (rest := []) ⟨hx, hb, hml, hown, hts⟩ (c_X2_squareTo l dC dI h0 xa ya cI x y (nI n) k px py (by omega)) (cwV 3 hts gX2_closestTo_X2_squareTo rfl rfl rfl (by decide +kernel) ⟨Nat.le_of_ble_eq_true rfl, Nat.le_of_ble_eq_true rfl⟩) (q_pV hK hP [0, 1, 2] [0] 2 0 rfl rfl rfl rfl rfl rfl) rfl hl.1 rfl (Nat.le_of_ble_eq_true rfl) ⟨Nat.zero_le _, Nat.zero_le _⟩ dX2_closestTo_19 ?_
        refine lv_aload_n hx hb dX2_closestTo_22 rfl (lv_at hl 0 rfl) ?_
        refine lv_iload_n hx hb dX2_closestTo_23 rfl (lv_at hl 3 rfl) ?_
        refine lv_iload_n hx hb dX2_closestTo_24 rfl (lv_at hl 1 rfl) ?_
        refine lv_iload_n hx hb dX2_closestTo_25 rfl (lv_at hl 2 rfl) ?_
        refine q_cV (As := [.int (nI b), .int px, .int py]) (rest := [.int (j_sq x y k px py)]) ⟨hx, hb, hml, hown, hts⟩ (c_X2_squareTo l dC dI h0 xa ya cI x y (nI n) b px py (by omega)) (cwV 3 hts gX2_closestTo_X2_squareTo rfl rfl rfl (by decide +kernel) ⟨Nat.le_of_ble_eq_true rfl, Nat.le_of_ble_eq_true rfl⟩) (q_pV hK hP [0, 1, 2] [0] 2 0 rfl rfl rfl rfl rfl rfl) rfl hl.1 rfl (Nat.le_of_ble_eq_true rfl) ⟨Nat.zero_le _, Nat.zero_le _⟩ dX2_closestTo_26 ?_
        refine lv_icmp_ge (tgt := 35) hx hb dX2_closestTo_29 (by decide) (fun c29 => ?_) (fun c29 => ?_)
        · rw [if_pos c29] at hF
          refine lv_iinc (v := nI (k + 1)) (lv' := [(4, .int (nI (k + 1))), (0, .ref h0), (1, .int px), (2, .int py), (3, .int (nI b))]) hx hb dX2_closestTo_35 hl (k := 4) rfl (by rw [show Int32.ofInt 1 = 1 from rfl]; exact nI_1 _) (by decide) rfl (fun ls hl => ?_)
          refine lv_goto (tgt := 5) hx hb dX2_closestTo_38 (by decide) ?_
          exact ih_loop b (k + 1) R ls (by omega) (by omega) (by omega) hF (lv_sub hl [1, 2, 3, 4, 0] rfl)
        · rw [if_neg c29] at hF
          refine lv_iload hx hb dX2_closestTo_32 (lv_at hl 4 rfl) ?_
          refine lv_istore_n (lv' := [(3, .int (nI k)), (0, .ref h0), (1, .int px), (2, .int py), (4, .int (nI k))]) hx hb dX2_closestTo_34 rfl hl (by decide) rfl (fun ls hl => ?_)
          refine lv_iinc (v := nI (k + 1)) (lv' := [(4, .int (nI (k + 1))), (3, .int (nI k)), (0, .ref h0), (1, .int px), (2, .int py)]) hx hb dX2_closestTo_35 hl (k := 4) rfl (by rw [show Int32.ofInt 1 = 1 from rfl]; exact nI_1 _) (by decide) rfl (fun ls hl => ?_)
          refine lv_goto (tgt := 5) hx hb dX2_closestTo_38 (by decide) ?_
          exact ih_loop k (k + 1) R ls (by omega) (by omega) (by omega) hF (lv_sub hl [2, 3, 4, 1, 0] rfl)
  exact loop (n + 1) 0 1 _ ls (by omega) (by omega) (by omega) rfl (lv_sub hl [2, 3, 4, 1, 0] rfl)
end
section
/-! Circle and Mosaic: what their reading methods answer -/
def j_pow (fx fy : Int32) (ax ay sp : Int64) (px py : Int32) : Int64 := ((((px - fx).toInt64 * (px - fx).toInt64) + ((py - fy).toInt64 * (py - fy).toInt64)) * sp) - (2 * (((px - fx).toInt64 * ax) + ((py - fy).toInt64 * ay)))
def j_after (rg sr : Nat → Nat) (d i : Nat) : Nat := rg (sr d + (if i + 1 < sr (d + 1) - sr d then i + 1 else 0))
def j_holds (x y : Nat → Int32) (rg sr : Nat → Nat) (d : Nat) (px py : Int32) (i : Nat) : Bool :=
  if i < sr (d + 1) - sr d then (if 0 ≤ j_turn x y (rg (sr d + i)) (j_after rg sr d i) px py then j_holds x y rg sr d px py (i + 1) else false) else true
termination_by sr (d + 1) - sr d - i
def j_first (x y : Nat → Int32) (rg sr : Nat → Nat) (n : Nat) (px py : Int32) (k : Nat) : Int32 :=
  if k < n then (if j_holds x y rg sr k px py 0 = false then j_first x y rg sr n px py (k + 1) else nI k) else -1
termination_by n - k
def j_next (ow : Nat → Int32) (n a k : Nat) : Int32 :=
  if k < n then (if ow (a * 20 + k) = -1 then j_next ow n a (k + 1) else (if ow (k * 20 + a) = -1 then nI k else j_next ow n a (k + 1))) else -1
termination_by n - k
def j_frim (ow : Nat → Int32) (n k : Nat) : Int32 :=
  if k < n then (if j_next ow n k 0 = -1 then j_frim ow n (k + 1) else nI k) else -1
termination_by n - k
def j_bg (w : Int64) (b nx : Bool) : Bool := if w < 0 then false else if ¬ w = 0 then nx else if b = false then nx else false
def j_begins (x y : Nat → Int32) (fx fy : Int32) (ax ay sp : Int64) (n a b k : Nat) : Bool :=
  if k < n then (if k < a then j_bg (j_pow fx fy ax ay sp (x k) (y k)) true (j_begins x y fx fy ax ay sp n a b (k + 1)) else if 0 ≤ j_turn x y a b (x k) (y k) then j_bg (j_pow fx fy ax ay sp (x k) (y k)) false (j_begins x y fx fy ax ay sp n a b (k + 1)) else j_bg (j_pow fx fy ax ay sp (x k) (y k)) true (j_begins x y fx fy ax ay sp n a b (k + 1))) else true
termination_by n - k
set_option maxHeartbeats 4000000 in
set_option maxRecDepth 100000 in
theorem c_X0_power (l : Launch) (dC : Nat → ClassId) (dI : Nat → Nat → Nat) (g0 : Nat) (fx fy : Int32) (ax ay sp : Int64) (px py : Int32) : Met l yX0_power wsX0_power ({ frames := 0, cells := 0, slots := 0, locals := 0 }) (q_Pc (dC, dI) [.ref g0, .int px, .int py] [(g0, .inr (0, [.int fx, .int fy, .long ax, .long ay, .long sp]))] []) (k2_QcV (.long (j_pow fx fy ax ay sp px py))) 0 0 (fun _ => False) := by
  refine Met.ofW (cc := cX0_power) (maxL := 7) (ret := (some .long)) (by decide) rfl ?_
  intro p e s m args below meth c s₁ B hml hv
  obtain ⟨rfl, hP, hK⟩ := hv
  have hx := B.exec
  have hb := B.bytes
  have hr := B.returns
  have hts := atoms_spec (ws := wsX0_power) B.pre
  have hown : s.vm.findClass RX0 = some m.cls := findClass_of_methodNamed B.named
  have hlocks := B.notSynchronized
  have hP : va_P (dC, dI) vwCl [(g0, .inr (0, [.int fx, .int fy, .long ax, .long ay, .long sp]))] s.heap := hP
  have hl := lv_entry ([.ref g0, .int px, .int py]) (n := 7) (Nat.le_of_ble_eq_true rfl)
  rw [lg_entry_eq]
  generalize (lg_sl ([.ref g0, .int px, .int py]) ++ List.replicate (7 - (lg_sl ([.ref g0, .int px, .int py])).length) Slot.unset).toArray = ls at hl ⊢
  have hl : lv_has ls 7 [(0, .ref g0), (1, .int px), (2, .int py)] := hl
  refine lv_iload_n hx hb dX0_power_0 rfl (lv_at hl 1 rfl) ?_
  refine lv_aload_n hx hb dX0_power_1 rfl (lv_at hl 0 rfl) ?_
  refine va_get (D := (dC, dI)) (ci := 0) (v := .int fx) (C := RX0) (T := TX0) (N := 5) hx hb hts (by decide +kernel) hown hK hP 0 rfl rfl 0 (by decide) (hts (.fieldLink RX0 13 "CircleCells$Circle" "fromX" "I") (by decide +kernel)) (fun _ h9 => h9) rfl dX0_power_2 ?_
  refine lv_isub hx hb dX0_power_5 ?_
  refine lv_i2l (v := (px - fx).toInt64) hx hb dX0_power_6 rfl ?_
  refine lv_lstore_n (lv' := [(3, .long ((px - fx).toInt64)), (0, .ref g0), (1, .int px), (2, .int py)]) hx hb dX0_power_7 rfl hl (by decide) rfl (fun ls hl => ?_)
  refine lv_iload_n hx hb dX0_power_8 rfl (lv_at hl 3 rfl) ?_
  refine lv_aload_n hx hb dX0_power_9 rfl (lv_at hl 1 rfl) ?_
  refine va_get (D := (dC, dI)) (ci := 0) (v := .int fy) (C := RX0) (T := TX0) (N := 5) hx hb hts (by decide +kernel) hown hK hP 0 rfl rfl 1 (by decide) (hts (.fieldLink RX0 22 "CircleCells$Circle" "fromY" "I") (by decide +kernel)) (fun _ h9 => h9) rfl dX0_power_10 ?_
  refine lv_isub hx hb dX0_power_13 ?_
  refine lv_i2l (v := (py - fy).toInt64) hx hb dX0_power_14 rfl ?_
  refine lv_lstore (lv' := [(5, .long ((py - fy).toInt64)), (3, .long ((px - fx).toInt64)), (0, .ref g0), (1, .int px), (2, .int py)]) hx hb dX0_power_15 hl (by decide) rfl (fun ls hl => ?_)
  refine lv_lload_n hx hb dX0_power_17 rfl (lv_at hl 1 rfl) ?_
  refine lv_lload_n hx hb dX0_power_18 rfl (lv_at hl 1 rfl) ?_
  refine lv_lmul hx hb dX0_power_19 ?_
  refine lv_lload hx hb dX0_power_20 (lv_at hl 0 rfl) ?_
  refine lv_lload hx hb dX0_power_22 (lv_at hl 0 rfl) ?_
  refine lv_lmul hx hb dX0_power_24 ?_
  refine lv_ladd hx hb dX0_power_25 ?_
  refine lv_aload_n hx hb dX0_power_26 rfl (lv_at hl 2 rfl) ?_
  refine va_get (D := (dC, dI)) (ci := 0) (v := .long sp) (C := RX0) (T := TX0) (N := 5) hx hb hts (by decide +kernel) hown hK hP 0 rfl rfl 4 (by decide) (hts (.fieldLink RX0 34 "CircleCells$Circle" "span" "J") (by decide +kernel)) (fun _ h9 => h9) rfl dX0_power_27 ?_
  refine lv_lmul hx hb dX0_power_30 ?_
  refine lv_ldc2 (v := 2) hx hb hown (hts (.constantLong RX0 32 (2)) (by decide +kernel)) dX0_power_31 ?_
  refine lv_lload_n hx hb dX0_power_34 rfl (lv_at hl 1 rfl) ?_
  refine lv_aload_n hx hb dX0_power_35 rfl (lv_at hl 2 rfl) ?_
  refine va_get (D := (dC, dI)) (ci := 0) (v := .long ax) (C := RX0) (T := TX0) (N := 5) hx hb hts (by decide +kernel) hown hK hP 0 rfl rfl 2 (by decide) (hts (.fieldLink RX0 25 "CircleCells$Circle" "aimX" "J") (by decide +kernel)) (fun _ h9 => h9) rfl dX0_power_36 ?_
  refine lv_lmul hx hb dX0_power_39 ?_
  refine lv_lload hx hb dX0_power_40 (lv_at hl 0 rfl) ?_
  refine lv_aload_n hx hb dX0_power_42 rfl (lv_at hl 2 rfl) ?_
  refine va_get (D := (dC, dI)) (ci := 0) (v := .long ay) (C := RX0) (T := TX0) (N := 5) hx hb hts (by decide +kernel) hown hK hP 0 rfl rfl 3 (by decide) (hts (.fieldLink RX0 29 "CircleCells$Circle" "aimY" "J") (by decide +kernel)) (fun _ h9 => h9) rfl dX0_power_43 ?_
  refine lv_lmul hx hb dX0_power_46 ?_
  refine lv_ladd hx hb dX0_power_47 ?_
  refine lv_lmul hx hb dX0_power_48 ?_
  refine lv_lsub hx hb dX0_power_49 ?_
  exact W.lret (v := (((((px - fx).toInt64) * ((px - fx).toInt64)) + (((py - fy).toInt64) * ((py - fy).toInt64))) * sp) - (2 * ((((px - fx).toInt64) * ax) + (((py - fy).toInt64) * ay)))) hx hb hr q_ret (fun _ h => nomatch h) dX0_power_50
set_option maxHeartbeats 4000000 in
set_option maxRecDepth 100000 in
theorem c_X1_sideKey (l : Launch) (dC : Nat → ClassId) (dI : Nat → Nat → Nat) (a b : Nat) : Met l yX1_sideKey wsX1_sideKey ({ frames := 0, cells := 0, slots := 0, locals := 0 }) (q_Pc (dC, dI) [.int (nI a), .int (nI b)] [] []) (k2_QcV (.int (nI (a * 20 + b)))) 0 0 (fun _ => False) := by
  refine Met.ofW (cc := cX1_sideKey) (maxL := 2) (ret := (some .int)) (by decide) rfl ?_
  intro p e s m args below meth c s₁ B hml hv
  obtain ⟨rfl, hP, hK⟩ := hv
  have hx := B.exec
  have hb := B.bytes
  have hr := B.returns
  have hts := atoms_spec (ws := wsX1_sideKey) B.pre
  have hown : s.vm.findClass RX1 = some m.cls := findClass_of_methodNamed B.named
  have hlocks := B.notSynchronized
  have hP : va_P (dC, dI) vwCl [] s.heap := hP
  have hl := lv_entry ([.int (nI a), .int (nI b)]) (n := 2) (Nat.le_of_ble_eq_true rfl)
  rw [lg_entry_eq]
  generalize (lg_sl ([.int (nI a), .int (nI b)]) ++ List.replicate (2 - (lg_sl ([.int (nI a), .int (nI b)])).length) Slot.unset).toArray = ls at hl ⊢
  have hl : lv_has ls 2 [(0, .int (nI a)), (1, .int (nI b))] := hl
  refine lv_iload_n hx hb dX1_sideKey_0 rfl (lv_at hl 0 rfl) ?_
  refine lv_bipush (v := nI 20) hx hb dX1_sideKey_1 (by decide) ?_
  refine q_imul hx hb dX1_sideKey_3 ?_
  refine lv_iload_n hx hb dX1_sideKey_4 rfl (lv_at hl 1 rfl) ?_
  refine q_iadd hx hb dX1_sideKey_5 ?_
  exact W.iret (v := nI ((a * 20) + b)) hx hb hr q_ret (fun _ h => nomatch h) dX1_sideKey_6
set_option maxHeartbeats 4000000 in
set_option maxRecDepth 100000 in
theorem c_X1_sideCount (l : Launch) (dC : Nat → ClassId) (dI : Nat → Nat → Nat) (m0 s0 g0 ra sa oa ma : Nat) (cI : ClassId) (cc rc : Int32) (sr : Nat → Nat) (d : Nat) (ld : d < 35) (lm : sr d ≤ sr (d + 1)) : Met l yX1_sideCount wsX1_sideCount ({ frames := 0, cells := 0, slots := 0, locals := 0 }) (q_Pc (dC, dI) [.ref m0, .int (nI d)] [(m0, .inr (1, [.ref s0, .ref g0, .ref ra, .ref sa, .ref oa, .int cc, .ref ma, .int rc])), (sa, .inl (cI, 36, .inl (fun j => nI (sr j))))] [(cI, .int)]) (k2_QcV (.int (nI (sr (d + 1) - sr d)))) 0 0 (fun _ => False) := by
  refine Met.ofW (cc := cX1_sideCount) (maxL := 2) (ret := (some .int)) (by decide) rfl ?_
  intro p e s m args below meth c s₁ B hml hv
  obtain ⟨rfl, hP, hK⟩ := hv
  have hx := B.exec
  have hb := B.bytes
  have hr := B.returns
  have hts := atoms_spec (ws := wsX1_sideCount) B.pre
  have hown : s.vm.findClass RX1 = some m.cls := findClass_of_methodNamed B.named
  have hlocks := B.notSynchronized
  have hP : va_P (dC, dI) vwCl [(m0, .inr (1, [.ref s0, .ref g0, .ref ra, .ref sa, .ref oa, .int cc, .ref ma, .int rc])), (sa, .inl (cI, 36, .inl (fun j => nI (sr j))))] s.heap := hP
  have hl := lv_entry ([.ref m0, .int (nI d)]) (n := 2) (Nat.le_of_ble_eq_true rfl)
  rw [lg_entry_eq]
  generalize (lg_sl ([.ref m0, .int (nI d)]) ++ List.replicate (2 - (lg_sl ([.ref m0, .int (nI d)])).length) Slot.unset).toArray = ls at hl ⊢
  have hl : lv_has ls 2 [(0, .ref m0), (1, .int (nI d))] := hl
  refine lv_aload_n hx hb dX1_sideCount_0 rfl (lv_at hl 0 rfl) ?_
  refine va_get (D := (dC, dI)) (ci := 1) (v := .ref sa) (C := RX1) (T := TX1) (N := 8) hx hb hts (by decide +kernel) hown hK hP 0 rfl rfl 3 (by decide) (hts (.fieldLink RX1 22 "CircleCells$Mosaic" "start" "[I") (by decide +kernel)) (fun _ h9 => h9) rfl dX1_sideCount_1 ?_
  refine lv_iload_n hx hb dX1_sideCount_4 rfl (lv_at hl 1 rfl) ?_
  refine lv_iconst (v := nI 1) hx hb dX1_sideCount_5 (by decide) ?_
  refine q_iadd hx hb dX1_sideCount_6 ?_
  refine q_iald hx hb hK hP 1 0 rfl rfl (d + 1) rfl (by omega) (by decide) dX1_sideCount_7 ?_
  refine lv_aload_n hx hb dX1_sideCount_8 rfl (lv_at hl 0 rfl) ?_
  refine va_get (D := (dC, dI)) (ci := 1) (v := .ref sa) (C := RX1) (T := TX1) (N := 8) hx hb hts (by decide +kernel) hown hK hP 0 rfl rfl 3 (by decide) (hts (.fieldLink RX1 22 "CircleCells$Mosaic" "start" "[I") (by decide +kernel)) (fun _ h9 => h9) rfl dX1_sideCount_9 ?_
  refine lv_iload_n hx hb dX1_sideCount_12 rfl (lv_at hl 1 rfl) ?_
  refine q_iald hx hb hK hP 1 0 rfl rfl (d) rfl (by omega) (by decide) dX1_sideCount_13 ?_
  refine q_isub lm hx hb dX1_sideCount_14 ?_
  exact W.iret (v := nI ((sr (d + 1)) - (sr d))) hx hb hr q_ret (fun _ h => nomatch h) dX1_sideCount_15
set_option maxHeartbeats 4000000 in
set_option maxRecDepth 100000 in
theorem c_X1_siteOf (l : Launch) (dC : Nat → ClassId) (dI : Nat → Nat → Nat) (m0 s0 g0 ra sa oa ma : Nat) (cI : ClassId) (cc rc : Int32) (rg sr : Nat → Nat) (d i : Nat) (ld : d < 36) (li : sr d + i < 105) : Met l yX1_siteOf wsX1_siteOf ({ frames := 0, cells := 0, slots := 0, locals := 0 }) (q_Pc (dC, dI) [.ref m0, .int (nI d), .int (nI i)] [(m0, .inr (1, [.ref s0, .ref g0, .ref ra, .ref sa, .ref oa, .int cc, .ref ma, .int rc])), (ra, .inl (cI, 105, .inl (fun j => nI (rg j)))), (sa, .inl (cI, 36, .inl (fun j => nI (sr j))))] [(cI, .int)]) (k2_QcV (.int (nI (rg (sr d + i))))) 0 0 (fun _ => False) := by
  refine Met.ofW (cc := cX1_siteOf) (maxL := 3) (ret := (some .int)) (by decide) rfl ?_
  intro p e s m args below meth c s₁ B hml hv
  obtain ⟨rfl, hP, hK⟩ := hv
  have hx := B.exec
  have hb := B.bytes
  have hr := B.returns
  have hts := atoms_spec (ws := wsX1_siteOf) B.pre
  have hown : s.vm.findClass RX1 = some m.cls := findClass_of_methodNamed B.named
  have hlocks := B.notSynchronized
  have hP : va_P (dC, dI) vwCl [(m0, .inr (1, [.ref s0, .ref g0, .ref ra, .ref sa, .ref oa, .int cc, .ref ma, .int rc])), (ra, .inl (cI, 105, .inl (fun j => nI (rg j)))), (sa, .inl (cI, 36, .inl (fun j => nI (sr j))))] s.heap := hP
  have hl := lv_entry ([.ref m0, .int (nI d), .int (nI i)]) (n := 3) (Nat.le_of_ble_eq_true rfl)
  rw [lg_entry_eq]
  generalize (lg_sl ([.ref m0, .int (nI d), .int (nI i)]) ++ List.replicate (3 - (lg_sl ([.ref m0, .int (nI d), .int (nI i)])).length) Slot.unset).toArray = ls at hl ⊢
  have hl : lv_has ls 3 [(0, .ref m0), (1, .int (nI d)), (2, .int (nI i))] := hl
  refine lv_aload_n hx hb dX1_siteOf_0 rfl (lv_at hl 0 rfl) ?_
  refine va_get (D := (dC, dI)) (ci := 1) (v := .ref ra) (C := RX1) (T := TX1) (N := 8) hx hb hts (by decide +kernel) hown hK hP 0 rfl rfl 2 (by decide) (hts (.fieldLink RX1 18 "CircleCells$Mosaic" "ring" "[I") (by decide +kernel)) (fun _ h9 => h9) rfl dX1_siteOf_1 ?_
  refine lv_aload_n hx hb dX1_siteOf_4 rfl (lv_at hl 0 rfl) ?_
  refine va_get (D := (dC, dI)) (ci := 1) (v := .ref sa) (C := RX1) (T := TX1) (N := 8) hx hb hts (by decide +kernel) hown hK hP 0 rfl rfl 3 (by decide) (hts (.fieldLink RX1 22 "CircleCells$Mosaic" "start" "[I") (by decide +kernel)) (fun _ h9 => h9) rfl dX1_siteOf_5 ?_
  refine lv_iload_n hx hb dX1_siteOf_8 rfl (lv_at hl 1 rfl) ?_
  refine q_iald hx hb hK hP 2 0 rfl rfl (d) rfl (by omega) (by decide) dX1_siteOf_9 ?_
  refine lv_iload_n hx hb dX1_siteOf_10 rfl (lv_at hl 2 rfl) ?_
  refine q_iadd hx hb dX1_siteOf_11 ?_
  refine q_iald hx hb hK hP 1 0 rfl rfl ((sr d) + i) rfl (by omega) (by decide) dX1_siteOf_12 ?_
  exact W.iret (v := nI (rg ((sr d) + i))) hx hb hr q_ret (fun _ h => nomatch h) dX1_siteOf_13
set_option maxHeartbeats 4000000 in
set_option maxRecDepth 100000 in
theorem c_X1_siteAfter (l : Launch) (dC : Nat → ClassId) (dI : Nat → Nat → Nat) (m0 s0 g0 ra sa oa ma : Nat) (cI : ClassId) (cc rc : Int32) (rg sr : Nat → Nat) (d i : Nat) (ld : d < 35) (lm : sr d < sr (d + 1)) (le : sr (d + 1) ≤ 105) (li : i < 105) : Met l yX1_siteAfter wsX1_siteAfter ({ frames := 1, cells := 0, slots := 0, locals := 22 }) (q_Pc (dC, dI) [.ref m0, .int (nI d), .int (nI i)] [(m0, .inr (1, [.ref s0, .ref g0, .ref ra, .ref sa, .ref oa, .int cc, .ref ma, .int rc])), (ra, .inl (cI, 105, .inl (fun j => nI (rg j)))), (sa, .inl (cI, 36, .inl (fun j => nI (sr j))))] [(cI, .int)]) (k2_QcV (.int (nI (j_after rg sr d i)))) 0 0 (fun _ => False) := by
  refine Met.ofW (cc := cX1_siteAfter) (maxL := 3) (ret := (some .int)) (by decide) rfl ?_
  intro p e s m args below meth c s₁ B hml hv
  obtain ⟨rfl, hP, hK⟩ := hv
  have hx := B.exec
  have hb := B.bytes
  have hr := B.returns
  have hts := atoms_spec (ws := wsX1_siteAfter) B.pre
  have hown : s.vm.findClass RX1 = some m.cls := findClass_of_methodNamed B.named
  have hlocks := B.notSynchronized
  have hP : va_P (dC, dI) vwCl [(m0, .inr (1, [.ref s0, .ref g0, .ref ra, .ref sa, .ref oa, .int cc, .ref ma, .int rc])), (ra, .inl (cI, 105, .inl (fun j => nI (rg j)))), (sa, .inl (cI, 36, .inl (fun j => nI (sr j))))] s.heap := hP
  have hl := lv_entry ([.ref m0, .int (nI d), .int (nI i)]) (n := 3) (Nat.le_of_ble_eq_true rfl)
  rw [lg_entry_eq]
  generalize (lg_sl ([.ref m0, .int (nI d), .int (nI i)]) ++ List.replicate (3 - (lg_sl ([.ref m0, .int (nI d), .int (nI i)])).length) Slot.unset).toArray = ls at hl ⊢
  have hl : lv_has ls 3 [(0, .ref m0), (1, .int (nI d)), (2, .int (nI i))] := hl
  refine lv_aload_n hx hb dX1_siteAfter_0 rfl (lv_at hl 0 rfl) ?_
  refine lv_iload_n hx hb dX1_siteAfter_1 rfl (lv_at hl 1 rfl) ?_
  refine lv_iload_n hx hb dX1_siteAfter_2 rfl (lv_at hl 2 rfl) ?_
  refine lv_iconst (v := nI 1) hx hb dX1_siteAfter_3 (by decide) ?_
  refine q_iadd hx hb dX1_siteAfter_4 ?_
  refine lv_aload_n hx hb dX1_siteAfter_5 rfl (lv_at hl 0 rfl) ?_
  refine lv_iload_n hx hb dX1_siteAfter_6 rfl (lv_at hl 1 rfl) ?_
  refine q_cV (As := [.int (nI d)]) (rest := [.int (nI (i + 1)), .int (nI d), .ref m0]) ⟨hx, hb, hml, hown, hts⟩ (c_X1_sideCount l dC dI m0 s0 g0 ra sa oa ma cI cc rc sr d (by omega) (by omega)) (cwV 1 hts gX1_siteAfter_X1_sideCount rfl rfl rfl (by decide +kernel) ⟨Nat.le_of_ble_eq_true rfl, Nat.le_of_ble_eq_true rfl⟩) (q_pV hK hP [0, 2] [0] 1 0 rfl rfl rfl rfl rfl rfl) rfl hl.1 rfl (Nat.le_of_ble_eq_true rfl) ⟨Nat.zero_le _, Nat.zero_le _⟩ dX1_siteAfter_7 ?_
  refine q_icmp_ge (tgt := 19) (by omega) (by omega) hx hb dX1_siteAfter_10 (by decide) (fun c10 => ?_) (fun c10 => ?_)
  · unfold j_after
    rw [if_neg (by omega)]
    refine lv_iconst (v := nI 0) hx hb dX1_siteAfter_19 (by decide) ?_
    refine q_cV (As := [.int (nI d), .int (nI 0)]) (rest := []) ⟨hx, hb, hml, hown, hts⟩ (c_X1_siteOf l dC dI m0 s0 g0 ra sa oa ma cI cc rc rg sr d 0 (by omega) (by omega)) (cwV 2 hts gX1_siteAfter_X1_siteOf rfl rfl rfl (by decide +kernel) ⟨Nat.le_of_ble_eq_true rfl, Nat.le_of_ble_eq_true rfl⟩) (q_pV hK hP [0, 1, 2] [0] 1 0 rfl rfl rfl rfl rfl rfl) rfl hl.1 rfl (Nat.le_of_ble_eq_true rfl) ⟨Nat.zero_le _, Nat.zero_le _⟩ dX1_siteAfter_20 ?_
    exact W.iret (v := nI (rg (sr d + 0))) hx hb hr q_ret (fun _ h => nomatch h) dX1_siteAfter_23
  · unfold j_after
    rw [if_pos c10]
    refine lv_iload_n hx hb dX1_siteAfter_13 rfl (lv_at hl 2 rfl) ?_
    refine lv_iconst (v := nI 1) hx hb dX1_siteAfter_14 (by decide) ?_
    refine q_iadd hx hb dX1_siteAfter_15 ?_
    refine lv_goto (tgt := 20) hx hb dX1_siteAfter_16 (by decide) ?_
    refine q_cV (As := [.int (nI d), .int (nI (i + 1))]) (rest := []) ⟨hx, hb, hml, hown, hts⟩ (c_X1_siteOf l dC dI m0 s0 g0 ra sa oa ma cI cc rc rg sr d (i + 1) (by omega) (by omega)) (cwV 2 hts gX1_siteAfter_X1_siteOf rfl rfl rfl (by decide +kernel) ⟨Nat.le_of_ble_eq_true rfl, Nat.le_of_ble_eq_true rfl⟩) (q_pV hK hP [0, 1, 2] [0] 1 0 rfl rfl rfl rfl rfl rfl) rfl hl.1 rfl (Nat.le_of_ble_eq_true rfl) ⟨Nat.zero_le _, Nat.zero_le _⟩ dX1_siteAfter_20 ?_
    exact W.iret (v := nI (rg (sr d + (i + 1)))) hx hb hr q_ret (fun _ h => nomatch h) dX1_siteAfter_23
set_option maxHeartbeats 4000000 in
set_option maxRecDepth 100000 in
theorem c_X1_across (l : Launch) (dC : Nat → ClassId) (dI : Nat → Nat → Nat) (m0 s0 g0 ra sa oa ma : Nat) (cI : ClassId) (cc rc : Int32) (rg sr : Nat → Nat) (ow : Nat → Int32) (d i : Nat) (ld : d < 35) (lm : sr d + i < sr (d + 1)) (le : sr (d + 1) ≤ 105) (lr : ∀ j, rg j < 20) : Met l yX1_across wsX1_across ({ frames := 2, cells := 0, slots := 0, locals := 44 }) (q_Pc (dC, dI) [.ref m0, .int (nI d), .int (nI i)] [(m0, .inr (1, [.ref s0, .ref g0, .ref ra, .ref sa, .ref oa, .int cc, .ref ma, .int rc])), (ra, .inl (cI, 105, .inl (fun j => nI (rg j)))), (sa, .inl (cI, 36, .inl (fun j => nI (sr j)))), (oa, .inl (cI, 400, .inl ow))] [(cI, .int)]) (k2_QcV (.int (ow (j_after rg sr d i * 20 + rg (sr d + i))))) 0 0 (fun _ => False) := by
  refine Met.ofW (cc := cX1_across) (maxL := 3) (ret := (some .int)) (by decide) rfl ?_
  intro p e s m args below meth c s₁ B hml hv
  obtain ⟨rfl, hP, hK⟩ := hv
  have hx := B.exec
  have hb := B.bytes
  have hr := B.returns
  have hts := atoms_spec (ws := wsX1_across) B.pre
  have hown : s.vm.findClass RX1 = some m.cls := findClass_of_methodNamed B.named
  have hlocks := B.notSynchronized
  have hP : va_P (dC, dI) vwCl [(m0, .inr (1, [.ref s0, .ref g0, .ref ra, .ref sa, .ref oa, .int cc, .ref ma, .int rc])), (ra, .inl (cI, 105, .inl (fun j => nI (rg j)))), (sa, .inl (cI, 36, .inl (fun j => nI (sr j)))), (oa, .inl (cI, 400, .inl ow))] s.heap := hP
  have hl := lv_entry ([.ref m0, .int (nI d), .int (nI i)]) (n := 3) (Nat.le_of_ble_eq_true rfl)
  rw [lg_entry_eq]
  generalize (lg_sl ([.ref m0, .int (nI d), .int (nI i)]) ++ List.replicate (3 - (lg_sl ([.ref m0, .int (nI d), .int (nI i)])).length) Slot.unset).toArray = ls at hl ⊢
  have hl : lv_has ls 3 [(0, .ref m0), (1, .int (nI d)), (2, .int (nI i))] := hl
  refine lv_aload_n hx hb dX1_across_0 rfl (lv_at hl 0 rfl) ?_
  refine va_get (D := (dC, dI)) (ci := 1) (v := .ref oa) (C := RX1) (T := TX1) (N := 8) hx hb hts (by decide +kernel) hown hK hP 0 rfl rfl 4 (by decide) (hts (.fieldLink RX1 25 "CircleCells$Mosaic" "owner" "[I") (by decide +kernel)) (fun _ h9 => h9) rfl dX1_across_1 ?_
  refine lv_aload_n hx hb dX1_across_4 rfl (lv_at hl 0 rfl) ?_
  refine lv_iload_n hx hb dX1_across_5 rfl (lv_at hl 1 rfl) ?_
  refine lv_iload_n hx hb dX1_across_6 rfl (lv_at hl 2 rfl) ?_
  refine q_cV (As := [.int (nI d), .int (nI i)]) (rest := [.ref oa]) ⟨hx, hb, hml, hown, hts⟩ (c_X1_siteAfter l dC dI m0 s0 g0 ra sa oa ma cI cc rc rg sr d i (by omega) (by omega) (by omega) (by omega)) (cwV 2 hts gX1_across_X1_siteAfter rfl rfl rfl (by decide +kernel) ⟨Nat.le_of_ble_eq_true rfl, Nat.le_of_ble_eq_true rfl⟩) (q_pV hK hP [0, 1, 2] [0] 1 0 rfl rfl rfl rfl rfl rfl) rfl hl.1 rfl (Nat.le_of_ble_eq_true rfl) ⟨Nat.zero_le _, Nat.zero_le _⟩ dX1_across_7 ?_
  refine lv_aload_n hx hb dX1_across_10 rfl (lv_at hl 0 rfl) ?_
  refine lv_iload_n hx hb dX1_across_11 rfl (lv_at hl 1 rfl) ?_
  refine lv_iload_n hx hb dX1_across_12 rfl (lv_at hl 2 rfl) ?_
  refine q_cV (As := [.int (nI d), .int (nI i)]) (rest := [.int (nI (j_after rg sr d i)), .ref oa]) ⟨hx, hb, hml, hown, hts⟩ (c_X1_siteOf l dC dI m0 s0 g0 ra sa oa ma cI cc rc rg sr d i (by omega) (by omega)) (cwV 2 hts gX1_across_X1_siteOf rfl rfl rfl (by decide +kernel) ⟨Nat.le_of_ble_eq_true rfl, Nat.le_of_ble_eq_true rfl⟩) (q_pV hK hP [0, 1, 2] [0] 1 0 rfl rfl rfl rfl rfl rfl) rfl hl.1 rfl (Nat.le_of_ble_eq_true rfl) ⟨Nat.zero_le _, Nat.zero_le _⟩ dX1_across_13 ?_
  refine q_cS (As := [.int (nI (j_after rg sr d i)), .int (nI (rg (sr d + i)))]) (rest := [.ref oa]) ⟨hx, hb, hml, hown, hts⟩ (c_X1_sideKey l dC dI (j_after rg sr d i) (rg (sr d + i))) (va_cwS 2 hts gX1_across_X1_sideKey rfl rfl rfl (by decide +kernel) ⟨Nat.le_of_ble_eq_true rfl, Nat.le_of_ble_eq_true rfl⟩) (q_pS hK hP [] [] rfl rfl rfl) rfl hl.1 rfl (Nat.le_of_ble_eq_true rfl) ⟨Nat.zero_le _, Nat.zero_le _⟩ dX1_across_16 ?_
  refine q_iald hx hb hK hP 3 0 rfl rfl ((j_after rg sr d i) * 20 + (rg (sr d + i))) rfl (by have h1 := lr (sr d + i); have h2 : j_after rg sr d i < 20 := lr _; omega) (by decide) dX1_across_19 ?_
  exact W.iret (v := ow ((j_after rg sr d i) * 20 + (rg (sr d + i)))) hx hb hr q_ret (fun _ h => nomatch h) dX1_across_20
set_option maxHeartbeats 4000000 in
set_option maxRecDepth 100000 in
theorem c_X1_holds (l : Launch) (dC : Nat → ClassId) (dI : Nat → Nat → Nat) (m0 s0 g0 ra sa oa ma : Nat) (cI : ClassId) (xa ya : Nat) (sz cc rc : Int32) (x y : Nat → Int32) (rg sr : Nat → Nat) (d : Nat) (px py : Int32) (ld : d < 35) (lm : sr d < sr (d + 1)) (le : sr (d + 1) ≤ 105) (lr : ∀ j, rg j < 20) : Met l yX1_holds wsX1_holds ({ frames := 2, cells := 0, slots := 0, locals := 44 }) (q_Pc (dC, dI) [.ref m0, .int (nI d), .int px, .int py] [(m0, .inr (1, [.ref s0, .ref g0, .ref ra, .ref sa, .ref oa, .int cc, .ref ma, .int rc])), (ra, .inl (cI, 105, .inl (fun j => nI (rg j)))), (sa, .inl (cI, 36, .inl (fun j => nI (sr j)))), (s0, .inr (2, [.ref xa, .ref ya, .int sz])), (xa, .inl (cI, 20, .inl x)), (ya, .inl (cI, 20, .inl y))] [(cI, .int)]) (k2_QcV (.int (bI (j_holds x y rg sr d px py 0)))) 0 0 (fun _ => False) := by
  refine Met.ofW (cc := cX1_holds) (maxL := 6) (ret := (some .boolean)) (by decide) rfl ?_
  intro p e s m args below meth c s₁ B hml hv
  obtain ⟨rfl, hP, hK⟩ := hv
  have hx := B.exec
  have hb := B.bytes
  have hr := B.returns
  have hts := atoms_spec (ws := wsX1_holds) B.pre
  have hown : s.vm.findClass RX1 = some m.cls := findClass_of_methodNamed B.named
  have hlocks := B.notSynchronized
  have hP : va_P (dC, dI) vwCl [(m0, .inr (1, [.ref s0, .ref g0, .ref ra, .ref sa, .ref oa, .int cc, .ref ma, .int rc])), (ra, .inl (cI, 105, .inl (fun j => nI (rg j)))), (sa, .inl (cI, 36, .inl (fun j => nI (sr j)))), (s0, .inr (2, [.ref xa, .ref ya, .int sz])), (xa, .inl (cI, 20, .inl x)), (ya, .inl (cI, 20, .inl y))] s.heap := hP
  have hl := lv_entry ([.ref m0, .int (nI d), .int px, .int py]) (n := 6) (Nat.le_of_ble_eq_true rfl)
  rw [lg_entry_eq]
  generalize (lg_sl ([.ref m0, .int (nI d), .int px, .int py]) ++ List.replicate (6 - (lg_sl ([.ref m0, .int (nI d), .int px, .int py])).length) Slot.unset).toArray = ls at hl ⊢
  have hl : lv_has ls 6 [(0, .ref m0), (1, .int (nI d)), (2, .int px), (3, .int py)] := hl
  refine lv_aload_n hx hb dX1_holds_0 rfl (lv_at hl 0 rfl) ?_
  refine lv_iload_n hx hb dX1_holds_1 rfl (lv_at hl 1 rfl) ?_
  refine q_cV (As := [.int (nI d)]) (rest := []) ⟨hx, hb, hml, hown, hts⟩ (c_X1_sideCount l dC dI m0 s0 g0 ra sa oa ma cI cc rc sr d (by omega) (by omega)) (cwV 1 hts gX1_holds_X1_sideCount rfl rfl rfl (by decide +kernel) ⟨Nat.le_of_ble_eq_true rfl, Nat.le_of_ble_eq_true rfl⟩) (q_pV hK hP [0, 2] [0] 1 0 rfl rfl rfl rfl rfl rfl) rfl hl.1 rfl (Nat.le_of_ble_eq_true rfl) ⟨Nat.zero_le _, Nat.zero_le _⟩ dX1_holds_2 ?_
  refine lv_istore (lv' := [(4, .int (nI (sr (d + 1) - sr d))), (0, .ref m0), (1, .int (nI d)), (2, .int px), (3, .int py)]) hx hb dX1_holds_5 hl (by decide) rfl (fun ls hl => ?_)
  refine lv_iconst (v := nI 0) hx hb dX1_holds_7 (by decide) ?_
  refine lv_istore (lv' := [(5, .int (nI 0)), (4, .int (nI (sr (d + 1) - sr d))), (0, .ref m0), (1, .int (nI d)), (2, .int px), (3, .int py)]) hx hb dX1_holds_8 hl (by decide) rfl (fun ls hl => ?_)
  have loop : ∀ (f : Nat) (i : Nat) (R : Bool) (ls : Array Slot), (i ≤ sr (d + 1) - sr d) → (sr (d + 1) - sr d + 1 ≤ i + f) → j_holds x y rg sr d px py i = R → lv_has ls 6 [(0, .ref m0), (1, .int (nI d)), (2, .int px), (3, .int py), (4, .int (nI (sr (d + 1) - sr d))), (5, .int (nI i))] → W p l e (headSpec wsX1_holds ({ frames := 2, cells := 0, slots := 0, locals := 44 })).room s m ([.ref m0, .int (nI d), .int px, .int py] : List Value).toArray below meth c s.heap [] 0 0 (MQ below (k2_QcV (.int (bI R))) ([.ref m0, .int (nI d), .int px, .int py] : List Value).toArray s 0 0 (fun _ => False)) (F0 m 10 ls []) := by
    intro f
    induction f with
    | zero =>
      intro i R ls h1 h2
      omega
    | succ f ih_loop =>
      intro i R ls h1 h2 hF hl
      refine lv_iload hx hb dX1_holds_10 (lv_at hl 5 rfl) ?_
      refine lv_iload hx hb dX1_holds_12 (lv_at hl 4 rfl) ?_
      refine q_icmp_ge (tgt := 51) (by omega) (by omega) hx hb dX1_holds_14 (by decide) (fun c14 => ?_) (fun c14 => ?_)
      · rw [j_holds, if_neg (by omega)] at hF
        subst hF
        refine lv_iconst (v := bI true) hx hb dX1_holds_51 (by decide) ?_
        exact W.zret (v := bI true) hx hb hr (bI_nar _) q_ret (fun _ h => nomatch h) dX1_holds_52
      · rw [j_holds, if_pos c14] at hF
        refine lv_aload_n hx hb dX1_holds_17 rfl (lv_at hl 0 rfl) ?_
        refine va_get (D := (dC, dI)) (ci := 1) (v := .ref s0) (C := RX1) (T := TX1) (N := 8) hx hb hts (by decide +kernel) hown hK hP 0 rfl rfl 0 (by decide) (hts (.fieldLink RX1 38 "CircleCells$Mosaic" "sites" "LCircleCells$Sites;") (by decide +kernel)) (fun _ h9 => h9) rfl dX1_holds_18 ?_
        refine lv_aload_n hx hb dX1_holds_21 rfl (lv_at hl 0 rfl) ?_
        refine lv_iload_n hx hb dX1_holds_22 rfl (lv_at hl 1 rfl) ?_
        refine lv_iload hx hb dX1_holds_23 (lv_at hl 5 rfl) ?_
        refine q_cV (As := [.int (nI d), .int (nI i)]) (rest := [.ref s0]) ⟨hx, hb, hml, hown, hts⟩ (c_X1_siteOf l dC dI m0 s0 g0 ra sa oa ma cI cc rc rg sr d i (by omega) (by omega)) (cwV 2 hts gX1_holds_X1_siteOf rfl rfl rfl (by decide +kernel) ⟨Nat.le_of_ble_eq_true rfl, Nat.le_of_ble_eq_true rfl⟩) (q_pV hK hP [0, 1, 2] [0] 1 0 rfl rfl rfl rfl rfl rfl) rfl hl.1 rfl (Nat.le_of_ble_eq_true rfl) ⟨Nat.zero_le _, Nat.zero_le _⟩ dX1_holds_25 ?_
        refine lv_aload_n hx hb dX1_holds_28 rfl (lv_at hl 0 rfl) ?_
        refine lv_iload_n hx hb dX1_holds_29 rfl (lv_at hl 1 rfl) ?_
        refine lv_iload hx hb dX1_holds_30 (lv_at hl 5 rfl) ?_
        refine q_cV (As := [.int (nI d), .int (nI i)]) (rest := [.int (nI (rg (sr d + i))), .ref s0]) ⟨hx, hb, hml, hown, hts⟩ (c_X1_siteAfter l dC dI m0 s0 g0 ra sa oa ma cI cc rc rg sr d i (by omega) (by omega) (by omega) (by omega)) (cwV 2 hts gX1_holds_X1_siteAfter rfl rfl rfl (by decide +kernel) ⟨Nat.le_of_ble_eq_true rfl, Nat.le_of_ble_eq_true rfl⟩) (q_pV hK hP [0, 1, 2] [0] 1 0 rfl rfl rfl rfl rfl rfl) rfl hl.1 rfl (Nat.le_of_ble_eq_true rfl) ⟨Nat.zero_le _, Nat.zero_le _⟩ dX1_holds_32 ?_
        refine lv_iload_n hx hb dX1_holds_35 rfl (lv_at hl 2 rfl) ?_
        refine lv_iload_n hx hb dX1_holds_36 rfl (lv_at hl 3 rfl) ?_
        refine q_cV (As := [.int (nI (rg (sr d + i))), .int (nI (j_after rg sr d i)), .int px, .int py]) (rest := []) ⟨hx, hb, hml, hown, hts⟩ (c_X2_turn l dC dI s0 xa ya cI x y sz (rg (sr d + i)) (j_after rg sr d i) px py (lr _) (lr _)) (cwV 4 hts gX1_holds_X2_turn rfl rfl rfl (by decide +kernel) ⟨Nat.le_of_ble_eq_true rfl, Nat.le_of_ble_eq_true rfl⟩) (q_pV hK hP [3, 4, 5] [0] 2 3 rfl rfl rfl rfl rfl rfl) rfl hl.1 rfl (Nat.le_of_ble_eq_true rfl) ⟨Nat.zero_le _, Nat.zero_le _⟩ dX1_holds_37 ?_
        refine lv_if_ge (tgt := 45) hx hb dX1_holds_40 (by decide) (fun c40 => ?_) (fun c40 => ?_)
        · rw [if_pos c40] at hF
          refine lv_iinc (v := nI (i + 1)) (lv' := [(5, .int (nI (i + 1))), (0, .ref m0), (1, .int (nI d)), (2, .int px), (3, .int py), (4, .int (nI (sr (d + 1) - sr d)))]) hx hb dX1_holds_45 hl (k := 5) rfl (by rw [show Int32.ofInt 1 = 1 from rfl]; exact nI_1 _) (by decide) rfl (fun ls hl => ?_)
          refine lv_goto (tgt := 10) hx hb dX1_holds_48 (by decide) ?_
          exact ih_loop (i + 1) R ls (by omega) (by omega) hF (lv_sub hl [1, 2, 3, 4, 5, 0] rfl)
        · rw [if_neg c40] at hF
          subst hF
          refine lv_iconst (v := bI false) hx hb dX1_holds_43 (by decide) ?_
          exact W.zret (v := bI false) hx hb hr (bI_nar _) q_ret (fun _ h => nomatch h) dX1_holds_44
  exact loop (sr (d + 1) - sr d + 1) 0 _ ls (by omega) (by omega) rfl (lv_sub hl [2, 3, 4, 5, 1, 0] rfl)
set_option maxHeartbeats 4000000 in
set_option maxRecDepth 100000 in
theorem c_X1_firstWith (l : Launch) (dC : Nat → ClassId) (dI : Nat → Nat → Nat) (m0 s0 g0 ra sa oa ma : Nat) (cI : ClassId) (xa ya : Nat) (sz rc : Int32) (x y : Nat → Int32) (rg sr : Nat → Nat) (n : Nat) (px py : Int32) (ln : n ≤ 35) (lm : ∀ d, d < n → sr d < sr (d + 1) ∧ sr (d + 1) ≤ 105) (lr : ∀ j, rg j < 20) : Met l yX1_firstWith wsX1_firstWith ({ frames := 3, cells := 0, slots := 0, locals := 69 }) (q_Pc (dC, dI) [.ref m0, .int px, .int py] [(m0, .inr (1, [.ref s0, .ref g0, .ref ra, .ref sa, .ref oa, .int (nI n), .ref ma, .int rc])), (ra, .inl (cI, 105, .inl (fun j => nI (rg j)))), (sa, .inl (cI, 36, .inl (fun j => nI (sr j)))), (s0, .inr (2, [.ref xa, .ref ya, .int sz])), (xa, .inl (cI, 20, .inl x)), (ya, .inl (cI, 20, .inl y))] [(cI, .int)]) (k2_QcV (.int (j_first x y rg sr n px py 0))) 0 0 (fun _ => False) := by
  refine Met.ofW (cc := cX1_firstWith) (maxL := 4) (ret := (some .int)) (by decide) rfl ?_
  intro p e s m args below meth c s₁ B hml hv
  obtain ⟨rfl, hP, hK⟩ := hv
  have hx := B.exec
  have hb := B.bytes
  have hr := B.returns
  have hts := atoms_spec (ws := wsX1_firstWith) B.pre
  have hown : s.vm.findClass RX1 = some m.cls := findClass_of_methodNamed B.named
  have hlocks := B.notSynchronized
  have hP : va_P (dC, dI) vwCl [(m0, .inr (1, [.ref s0, .ref g0, .ref ra, .ref sa, .ref oa, .int (nI n), .ref ma, .int rc])), (ra, .inl (cI, 105, .inl (fun j => nI (rg j)))), (sa, .inl (cI, 36, .inl (fun j => nI (sr j)))), (s0, .inr (2, [.ref xa, .ref ya, .int sz])), (xa, .inl (cI, 20, .inl x)), (ya, .inl (cI, 20, .inl y))] s.heap := hP
  have hl := lv_entry ([.ref m0, .int px, .int py]) (n := 4) (Nat.le_of_ble_eq_true rfl)
  rw [lg_entry_eq]
  generalize (lg_sl ([.ref m0, .int px, .int py]) ++ List.replicate (4 - (lg_sl ([.ref m0, .int px, .int py])).length) Slot.unset).toArray = ls at hl ⊢
  have hl : lv_has ls 4 [(0, .ref m0), (1, .int px), (2, .int py)] := hl
  refine lv_iconst (v := nI 0) hx hb dX1_firstWith_0 (by decide) ?_
  refine lv_istore_n (lv' := [(3, .int (nI 0)), (0, .ref m0), (1, .int px), (2, .int py)]) hx hb dX1_firstWith_1 rfl hl (by decide) rfl (fun ls hl => ?_)
  have loop : ∀ (f : Nat) (k : Nat) (R : Int32) (ls : Array Slot), (k ≤ n) → (n + 1 ≤ k + f) → j_first x y rg sr n px py k = R → lv_has ls 4 [(0, .ref m0), (1, .int px), (2, .int py), (3, .int (nI k))] → W p l e (headSpec wsX1_firstWith ({ frames := 3, cells := 0, slots := 0, locals := 69 })).room s m ([.ref m0, .int px, .int py] : List Value).toArray below meth c s.heap [] 0 0 (MQ below (k2_QcV (.int R)) ([.ref m0, .int px, .int py] : List Value).toArray s 0 0 (fun _ => False)) (F0 m 2 ls []) := by
    intro f
    induction f with
    | zero =>
      intro k R ls h1 h2
      omega
    | succ f ih_loop =>
      intro k R ls h1 h2 hF hl
      refine lv_iload_n hx hb dX1_firstWith_2 rfl (lv_at hl 3 rfl) ?_
      refine lv_aload_n hx hb dX1_firstWith_3 rfl (lv_at hl 0 rfl) ?_
      refine va_get (D := (dC, dI)) (ci := 1) (v := .int (nI n)) (C := RX1) (T := TX1) (N := 8) hx hb hts (by decide +kernel) hown hK hP 0 rfl rfl 5 (by decide) (hts (.fieldLink RX1 28 "CircleCells$Mosaic" "cellCount" "I") (by decide +kernel)) (fun _ h9 => h9) rfl dX1_firstWith_4 ?_
      refine q_icmp_ge (tgt := 28) (by omega) (by omega) hx hb dX1_firstWith_7 (by decide) (fun c7 => ?_) (fun c7 => ?_)
      · rw [j_first, if_neg (by omega)] at hF
        subst hF
        refine lv_iconst (v := (-1)) hx hb dX1_firstWith_28 (by decide) ?_
        exact W.iret (v := (-1)) hx hb hr q_ret (fun _ h => nomatch h) dX1_firstWith_29
      · rw [j_first, if_pos c7] at hF
        refine lv_aload_n hx hb dX1_firstWith_10 rfl (lv_at hl 0 rfl) ?_
        refine lv_iload_n hx hb dX1_firstWith_11 rfl (lv_at hl 3 rfl) ?_
        refine lv_iload_n hx hb dX1_firstWith_12 rfl (lv_at hl 1 rfl) ?_
        refine lv_iload_n hx hb dX1_firstWith_13 rfl (lv_at hl 2 rfl) ?_
        refine q_cV (As := [.int (nI k), .int px, .int py]) (rest := []) ⟨hx, hb, hml, hown, hts⟩ (c_X1_holds l dC dI m0 s0 g0 ra sa oa ma cI xa ya sz (nI n) rc x y rg sr k px py (by omega) (lm k c7).1 (lm k c7).2 lr) (cwV 3 hts gX1_firstWith_X1_holds rfl rfl rfl (by decide +kernel) ⟨Nat.le_of_ble_eq_true rfl, Nat.le_of_ble_eq_true rfl⟩) (q_pV hK hP [0, 1, 2, 3, 4, 5] [0] 1 0 rfl rfl rfl rfl rfl rfl) rfl hl.1 rfl (Nat.le_of_ble_eq_true rfl) ⟨Nat.zero_le _, Nat.zero_le _⟩ dX1_firstWith_14 ?_
        refine q_ifb_eq (tgt := 22) hx hb dX1_firstWith_17 (by decide) (fun c17 => ?_) (fun c17 => ?_)
        · rw [if_pos c17] at hF
          refine lv_iinc (v := nI (k + 1)) (lv' := [(3, .int (nI (k + 1))), (0, .ref m0), (1, .int px), (2, .int py)]) hx hb dX1_firstWith_22 hl (k := 3) rfl (by rw [show Int32.ofInt 1 = 1 from rfl]; exact nI_1 _) (by decide) rfl (fun ls hl => ?_)
          refine lv_goto (tgt := 2) hx hb dX1_firstWith_25 (by decide) ?_
          exact ih_loop (k + 1) R ls (by omega) (by omega) hF (lv_sub hl [1, 2, 3, 0] rfl)
        · rw [if_neg (by rw [c17]; decide)] at hF
          subst hF
          refine lv_iload_n hx hb dX1_firstWith_20 rfl (lv_at hl 3 rfl) ?_
          exact W.iret (v := nI k) hx hb hr q_ret (fun _ h => nomatch h) dX1_firstWith_21
  exact loop (n + 1) 0 _ ls (by omega) (by omega) rfl (lv_sub hl [1, 2, 3, 0] rfl)
set_option maxHeartbeats 4000000 in
set_option maxRecDepth 100000 in
theorem c_X1_nextOnRim (l : Launch) (dC : Nat → ClassId) (dI : Nat → Nat → Nat) (m0 s0 g0 ra sa oa ma : Nat) (cI : ClassId) (xa ya : Nat) (cc rc : Int32) (x y : Nat → Int32) (ow : Nat → Int32) (n a : Nat) (ln : n ≤ 20) (la : a < 20) : Met l yX1_nextOnRim wsX1_nextOnRim ({ frames := 1, cells := 0, slots := 0, locals := 21 }) (q_Pc (dC, dI) [.ref m0, .int (nI a)] [(m0, .inr (1, [.ref s0, .ref g0, .ref ra, .ref sa, .ref oa, .int cc, .ref ma, .int rc])), (oa, .inl (cI, 400, .inl ow)), (s0, .inr (2, [.ref xa, .ref ya, .int (nI n)]))] [(cI, .int)]) (k2_QcV (.int (j_next ow n a 0))) 0 0 (fun _ => False) := by
  refine Met.ofW (cc := cX1_nextOnRim) (maxL := 3) (ret := (some .int)) (by decide) rfl ?_
  intro p e s m args below meth c s₁ B hml hv
  obtain ⟨rfl, hP, hK⟩ := hv
  have hx := B.exec
  have hb := B.bytes
  have hr := B.returns
  have hts := atoms_spec (ws := wsX1_nextOnRim) B.pre
  have hown : s.vm.findClass RX1 = some m.cls := findClass_of_methodNamed B.named
  have hlocks := B.notSynchronized
  have hP : va_P (dC, dI) vwCl [(m0, .inr (1, [.ref s0, .ref g0, .ref ra, .ref sa, .ref oa, .int cc, .ref ma, .int rc])), (oa, .inl (cI, 400, .inl ow)), (s0, .inr (2, [.ref xa, .ref ya, .int (nI n)]))] s.heap := hP
  have hl := lv_entry ([.ref m0, .int (nI a)]) (n := 3) (Nat.le_of_ble_eq_true rfl)
  rw [lg_entry_eq]
  generalize (lg_sl ([.ref m0, .int (nI a)]) ++ List.replicate (3 - (lg_sl ([.ref m0, .int (nI a)])).length) Slot.unset).toArray = ls at hl ⊢
  have hl : lv_has ls 3 [(0, .ref m0), (1, .int (nI a))] := hl
  refine lv_iconst (v := nI 0) hx hb dX1_nextOnRim_0 (by decide) ?_
  refine lv_istore_n (lv' := [(2, .int (nI 0)), (0, .ref m0), (1, .int (nI a))]) hx hb dX1_nextOnRim_1 rfl hl (by decide) rfl (fun ls hl => ?_)
  have loop : ∀ (f : Nat) (k : Nat) (R : Int32) (ls : Array Slot), (k ≤ n) → (n + 1 ≤ k + f) → j_next ow n a k = R → lv_has ls 3 [(0, .ref m0), (1, .int (nI a)), (2, .int (nI k))] → W p l e (headSpec wsX1_nextOnRim ({ frames := 1, cells := 0, slots := 0, locals := 21 })).room s m ([.ref m0, .int (nI a)] : List Value).toArray below meth c s.heap [] 0 0 (MQ below (k2_QcV (.int R)) ([.ref m0, .int (nI a)] : List Value).toArray s 0 0 (fun _ => False)) (F0 m 2 ls []) := by
    intro f
    induction f with
    | zero =>
      intro k R ls h1 h2
      omega
    | succ f ih_loop =>
      intro k R ls h1 h2 hF hl
      refine lv_iload_n hx hb dX1_nextOnRim_2 rfl (lv_at hl 2 rfl) ?_
      refine lv_aload_n hx hb dX1_nextOnRim_3 rfl (lv_at hl 0 rfl) ?_
      refine va_get (D := (dC, dI)) (ci := 1) (v := .ref s0) (C := RX1) (T := TX1) (N := 8) hx hb hts (by decide +kernel) hown hK hP 0 rfl rfl 0 (by decide) (hts (.fieldLink RX1 38 "CircleCells$Mosaic" "sites" "LCircleCells$Sites;") (by decide +kernel)) (fun _ h9 => h9) rfl dX1_nextOnRim_4 ?_
      refine va_get (D := (dC, dI)) (ci := 2) (v := .int (nI n)) (C := RX2) (T := TX2) (N := 3) hx hb hts (by decide +kernel) hown hK hP 2 rfl rfl 2 (by decide) (hts (.fieldLink RX1 48 "CircleCells$Sites" "size" "I") (by decide +kernel)) (fun _ h9 => h9) rfl dX1_nextOnRim_7 ?_
      refine q_icmp_ge (tgt := 49) (by omega) (by omega) hx hb dX1_nextOnRim_10 (by decide) (fun c10 => ?_) (fun c10 => ?_)
      · rw [j_next, if_neg (by omega)] at hF
        subst hF
        refine lv_iconst (v := (-1)) hx hb dX1_nextOnRim_49 (by decide) ?_
        exact W.iret (v := (-1)) hx hb hr q_ret (fun _ h => nomatch h) dX1_nextOnRim_50
      · rw [j_next, if_pos c10] at hF
        refine lv_aload_n hx hb dX1_nextOnRim_13 rfl (lv_at hl 0 rfl) ?_
        refine va_get (D := (dC, dI)) (ci := 1) (v := .ref oa) (C := RX1) (T := TX1) (N := 8) hx hb hts (by decide +kernel) hown hK hP 0 rfl rfl 4 (by decide) (hts (.fieldLink RX1 25 "CircleCells$Mosaic" "owner" "[I") (by decide +kernel)) (fun _ h9 => h9) rfl dX1_nextOnRim_14 ?_
        refine lv_iload_n hx hb dX1_nextOnRim_17 rfl (lv_at hl 1 rfl) ?_
        refine lv_iload_n hx hb dX1_nextOnRim_18 rfl (lv_at hl 2 rfl) ?_
        refine q_cS (As := [.int (nI a), .int (nI k)]) (rest := [.ref oa]) ⟨hx, hb, hml, hown, hts⟩ (c_X1_sideKey l dC dI a k) (va_cwS 2 hts gX1_nextOnRim_X1_sideKey rfl rfl rfl (by decide +kernel) ⟨Nat.le_of_ble_eq_true rfl, Nat.le_of_ble_eq_true rfl⟩) (q_pS hK hP [] [] rfl rfl rfl) rfl hl.1 rfl (Nat.le_of_ble_eq_true rfl) ⟨Nat.zero_le _, Nat.zero_le _⟩ dX1_nextOnRim_19 ?_
        refine q_iald hx hb hK hP 1 0 rfl rfl (a * 20 + k) rfl (by omega) (by decide) dX1_nextOnRim_22 ?_
        refine lv_iconst (v := (-1)) hx hb dX1_nextOnRim_23 (by decide) ?_
        refine lv_icmp_eq (tgt := 43) hx hb dX1_nextOnRim_24 (by decide) (fun c24 => ?_) (fun c24 => ?_)
        · rw [if_pos c24] at hF
          refine lv_iinc (v := nI (k + 1)) (lv' := [(2, .int (nI (k + 1))), (0, .ref m0), (1, .int (nI a))]) hx hb dX1_nextOnRim_43 hl (k := 2) rfl (by rw [show Int32.ofInt 1 = 1 from rfl]; exact nI_1 _) (by decide) rfl (fun ls hl => ?_)
          refine lv_goto (tgt := 2) hx hb dX1_nextOnRim_46 (by decide) ?_
          exact ih_loop (k + 1) R ls (by omega) (by omega) hF (lv_sub hl [1, 2, 0] rfl)
        · rw [if_neg c24] at hF
          refine lv_aload_n hx hb dX1_nextOnRim_27 rfl (lv_at hl 0 rfl) ?_
          refine va_get (D := (dC, dI)) (ci := 1) (v := .ref oa) (C := RX1) (T := TX1) (N := 8) hx hb hts (by decide +kernel) hown hK hP 0 rfl rfl 4 (by decide) (hts (.fieldLink RX1 25 "CircleCells$Mosaic" "owner" "[I") (by decide +kernel)) (fun _ h9 => h9) rfl dX1_nextOnRim_28 ?_
          refine lv_iload_n hx hb dX1_nextOnRim_31 rfl (lv_at hl 2 rfl) ?_
          refine lv_iload_n hx hb dX1_nextOnRim_32 rfl (lv_at hl 1 rfl) ?_
          refine q_cS (As := [.int (nI k), .int (nI a)]) (rest := [.ref oa]) ⟨hx, hb, hml, hown, hts⟩ (c_X1_sideKey l dC dI k a) (va_cwS 2 hts gX1_nextOnRim_X1_sideKey rfl rfl rfl (by decide +kernel) ⟨Nat.le_of_ble_eq_true rfl, Nat.le_of_ble_eq_true rfl⟩) (q_pS hK hP [] [] rfl rfl rfl) rfl hl.1 rfl (Nat.le_of_ble_eq_true rfl) ⟨Nat.zero_le _, Nat.zero_le _⟩ dX1_nextOnRim_33 ?_
          refine q_iald hx hb hK hP 1 0 rfl rfl (k * 20 + a) rfl (by omega) (by decide) dX1_nextOnRim_36 ?_
          refine lv_iconst (v := (-1)) hx hb dX1_nextOnRim_37 (by decide) ?_
          refine lv_icmp_ne (tgt := 43) hx hb dX1_nextOnRim_38 (by decide) (fun c38 => ?_) (fun c38 => ?_)
          · rw [if_neg c38] at hF
            refine lv_iinc (v := nI (k + 1)) (lv' := [(2, .int (nI (k + 1))), (0, .ref m0), (1, .int (nI a))]) hx hb dX1_nextOnRim_43 hl (k := 2) rfl (by rw [show Int32.ofInt 1 = 1 from rfl]; exact nI_1 _) (by decide) rfl (fun ls hl => ?_)
            refine lv_goto (tgt := 2) hx hb dX1_nextOnRim_46 (by decide) ?_
            exact ih_loop (k + 1) R ls (by omega) (by omega) hF (lv_sub hl [1, 2, 0] rfl)
          · rw [if_pos c38] at hF
            subst hF
            refine lv_iload_n hx hb dX1_nextOnRim_41 rfl (lv_at hl 2 rfl) ?_
            exact W.iret (v := nI k) hx hb hr q_ret (fun _ h => nomatch h) dX1_nextOnRim_42
  exact loop (n + 1) 0 _ ls (by omega) (by omega) rfl (lv_sub hl [1, 2, 0] rfl)
set_option maxHeartbeats 4000000 in
set_option maxRecDepth 100000 in
theorem c_X1_firstOnRim (l : Launch) (dC : Nat → ClassId) (dI : Nat → Nat → Nat) (m0 s0 g0 ra sa oa ma : Nat) (cI : ClassId) (xa ya : Nat) (cc rc : Int32) (x y : Nat → Int32) (ow : Nat → Int32) (n : Nat) (ln : n ≤ 20) : Met l yX1_firstOnRim wsX1_firstOnRim ({ frames := 2, cells := 0, slots := 0, locals := 43 }) (q_Pc (dC, dI) [.ref m0] [(m0, .inr (1, [.ref s0, .ref g0, .ref ra, .ref sa, .ref oa, .int cc, .ref ma, .int rc])), (oa, .inl (cI, 400, .inl ow)), (s0, .inr (2, [.ref xa, .ref ya, .int (nI n)]))] [(cI, .int)]) (k2_QcV (.int (j_frim ow n 0))) 0 0 (fun _ => False) := by
  refine Met.ofW (cc := cX1_firstOnRim) (maxL := 2) (ret := (some .int)) (by decide) rfl ?_
  intro p e s m args below meth c s₁ B hml hv
  obtain ⟨rfl, hP, hK⟩ := hv
  have hx := B.exec
  have hb := B.bytes
  have hr := B.returns
  have hts := atoms_spec (ws := wsX1_firstOnRim) B.pre
  have hown : s.vm.findClass RX1 = some m.cls := findClass_of_methodNamed B.named
  have hlocks := B.notSynchronized
  have hP : va_P (dC, dI) vwCl [(m0, .inr (1, [.ref s0, .ref g0, .ref ra, .ref sa, .ref oa, .int cc, .ref ma, .int rc])), (oa, .inl (cI, 400, .inl ow)), (s0, .inr (2, [.ref xa, .ref ya, .int (nI n)]))] s.heap := hP
  have hl := lv_entry ([.ref m0]) (n := 2) (Nat.le_of_ble_eq_true rfl)
  rw [lg_entry_eq]
  generalize (lg_sl ([.ref m0]) ++ List.replicate (2 - (lg_sl ([.ref m0])).length) Slot.unset).toArray = ls at hl ⊢
  have hl : lv_has ls 2 [(0, .ref m0)] := hl
  refine lv_iconst (v := nI 0) hx hb dX1_firstOnRim_0 (by decide) ?_
  refine lv_istore_n (lv' := [(1, .int (nI 0)), (0, .ref m0)]) hx hb dX1_firstOnRim_1 rfl hl (by decide) rfl (fun ls hl => ?_)
  have loop : ∀ (f : Nat) (k : Nat) (R : Int32) (ls : Array Slot), (k ≤ n) → (n + 1 ≤ k + f) → j_frim ow n k = R → lv_has ls 2 [(0, .ref m0), (1, .int (nI k))] → W p l e (headSpec wsX1_firstOnRim ({ frames := 2, cells := 0, slots := 0, locals := 43 })).room s m ([.ref m0] : List Value).toArray below meth c s.heap [] 0 0 (MQ below (k2_QcV (.int R)) ([.ref m0] : List Value).toArray s 0 0 (fun _ => False)) (F0 m 2 ls []) := by
    intro f
    induction f with
    | zero =>
      intro k R ls h1 h2
      omega
    | succ f ih_loop =>
      intro k R ls h1 h2 hF hl
      refine lv_iload_n hx hb dX1_firstOnRim_2 rfl (lv_at hl 1 rfl) ?_
      refine lv_aload_n hx hb dX1_firstOnRim_3 rfl (lv_at hl 0 rfl) ?_
      refine va_get (D := (dC, dI)) (ci := 1) (v := .ref s0) (C := RX1) (T := TX1) (N := 8) hx hb hts (by decide +kernel) hown hK hP 0 rfl rfl 0 (by decide) (hts (.fieldLink RX1 38 "CircleCells$Mosaic" "sites" "LCircleCells$Sites;") (by decide +kernel)) (fun _ h9 => h9) rfl dX1_firstOnRim_4 ?_
      refine va_get (D := (dC, dI)) (ci := 2) (v := .int (nI n)) (C := RX2) (T := TX2) (N := 3) hx hb hts (by decide +kernel) hown hK hP 2 rfl rfl 2 (by decide) (hts (.fieldLink RX1 48 "CircleCells$Sites" "size" "I") (by decide +kernel)) (fun _ h9 => h9) rfl dX1_firstOnRim_7 ?_
      refine q_icmp_ge (tgt := 30) (by omega) (by omega) hx hb dX1_firstOnRim_10 (by decide) (fun c10 => ?_) (fun c10 => ?_)
      · rw [j_frim, if_neg (by omega)] at hF
        subst hF
        refine lv_iconst (v := (-1)) hx hb dX1_firstOnRim_30 (by decide) ?_
        exact W.iret (v := (-1)) hx hb hr q_ret (fun _ h => nomatch h) dX1_firstOnRim_31
      · rw [j_frim, if_pos c10] at hF
        refine lv_aload_n hx hb dX1_firstOnRim_13 rfl (lv_at hl 0 rfl) ?_
        refine lv_iload_n hx hb dX1_firstOnRim_14 rfl (lv_at hl 1 rfl) ?_
        refine q_cV (As := [.int (nI k)]) (rest := []) ⟨hx, hb, hml, hown, hts⟩ (c_X1_nextOnRim l dC dI m0 s0 g0 ra sa oa ma cI xa ya cc rc x y ow n k (by omega) (by omega)) (cwV 1 hts gX1_firstOnRim_X1_nextOnRim rfl rfl rfl (by decide +kernel) ⟨Nat.le_of_ble_eq_true rfl, Nat.le_of_ble_eq_true rfl⟩) (q_pV hK hP [0, 1, 2] [0] 1 0 rfl rfl rfl rfl rfl rfl) rfl hl.1 rfl (Nat.le_of_ble_eq_true rfl) ⟨Nat.zero_le _, Nat.zero_le _⟩ dX1_firstOnRim_15 ?_
        refine lv_iconst (v := (-1)) hx hb dX1_firstOnRim_18 (by decide) ?_
        refine lv_icmp_eq (tgt := 24) hx hb dX1_firstOnRim_19 (by decide) (fun c19 => ?_) (fun c19 => ?_)
        · rw [if_pos c19] at hF
          refine lv_iinc (v := nI (k + 1)) (lv' := [(1, .int (nI (k + 1))), (0, .ref m0)]) hx hb dX1_firstOnRim_24 hl (k := 1) rfl (by rw [show Int32.ofInt 1 = 1 from rfl]; exact nI_1 _) (by decide) rfl (fun ls hl => ?_)
          refine lv_goto (tgt := 2) hx hb dX1_firstOnRim_27 (by decide) ?_
          exact ih_loop (k + 1) R ls (by omega) (by omega) hF (lv_sub hl [1, 0] rfl)
        · rw [if_neg c19] at hF
          subst hF
          refine lv_iload_n hx hb dX1_firstOnRim_22 rfl (lv_at hl 1 rfl) ?_
          exact W.iret (v := nI k) hx hb hr q_ret (fun _ h => nomatch h) dX1_firstOnRim_23
  exact loop (n + 1) 0 _ ls (by omega) (by omega) rfl (lv_sub hl [1, 0] rfl)
set_option maxHeartbeats 4000000 in
set_option maxRecDepth 100000 in
theorem c_X1_powerOf (l : Launch) (dC : Nat → ClassId) (dI : Nat → Nat → Nat) (m0 s0 g0 ra sa oa ma : Nat) (cI : ClassId) (xa ya : Nat) (sz cc rc : Int32) (x y : Nat → Int32) (fx fy : Int32) (ax ay sp : Int64) (k : Nat) (lk : k < 20) : Met l yX1_powerOf wsX1_powerOf ({ frames := 1, cells := 0, slots := 0, locals := 26 }) (q_Pc (dC, dI) [.ref m0, .int (nI k)] [(m0, .inr (1, [.ref s0, .ref g0, .ref ra, .ref sa, .ref oa, .int cc, .ref ma, .int rc])), (g0, .inr (0, [.int fx, .int fy, .long ax, .long ay, .long sp])), (s0, .inr (2, [.ref xa, .ref ya, .int sz])), (xa, .inl (cI, 20, .inl x)), (ya, .inl (cI, 20, .inl y))] [(cI, .int)]) (k2_QcV (.long (j_pow fx fy ax ay sp (x k) (y k)))) 0 0 (fun _ => False) := by
  refine Met.ofW (cc := cX1_powerOf) (maxL := 2) (ret := (some .long)) (by decide) rfl ?_
  intro p e s m args below meth c s₁ B hml hv
  obtain ⟨rfl, hP, hK⟩ := hv
  have hx := B.exec
  have hb := B.bytes
  have hr := B.returns
  have hts := atoms_spec (ws := wsX1_powerOf) B.pre
  have hown : s.vm.findClass RX1 = some m.cls := findClass_of_methodNamed B.named
  have hlocks := B.notSynchronized
  have hP : va_P (dC, dI) vwCl [(m0, .inr (1, [.ref s0, .ref g0, .ref ra, .ref sa, .ref oa, .int cc, .ref ma, .int rc])), (g0, .inr (0, [.int fx, .int fy, .long ax, .long ay, .long sp])), (s0, .inr (2, [.ref xa, .ref ya, .int sz])), (xa, .inl (cI, 20, .inl x)), (ya, .inl (cI, 20, .inl y))] s.heap := hP
  have hl := lv_entry ([.ref m0, .int (nI k)]) (n := 2) (Nat.le_of_ble_eq_true rfl)
  rw [lg_entry_eq]
  generalize (lg_sl ([.ref m0, .int (nI k)]) ++ List.replicate (2 - (lg_sl ([.ref m0, .int (nI k)])).length) Slot.unset).toArray = ls at hl ⊢
  have hl : lv_has ls 2 [(0, .ref m0), (1, .int (nI k))] := hl
  refine lv_aload_n hx hb dX1_powerOf_0 rfl (lv_at hl 0 rfl) ?_
  refine va_get (D := (dC, dI)) (ci := 1) (v := .ref g0) (C := RX1) (T := TX1) (N := 8) hx hb hts (by decide +kernel) hown hK hP 0 rfl rfl 1 (by decide) (hts (.fieldLink RX1 12 "CircleCells$Mosaic" "circle" "LCircleCells$Circle;") (by decide +kernel)) (fun _ h9 => h9) rfl dX1_powerOf_1 ?_
  refine lv_aload_n hx hb dX1_powerOf_4 rfl (lv_at hl 0 rfl) ?_
  refine va_get (D := (dC, dI)) (ci := 1) (v := .ref s0) (C := RX1) (T := TX1) (N := 8) hx hb hts (by decide +kernel) hown hK hP 0 rfl rfl 0 (by decide) (hts (.fieldLink RX1 38 "CircleCells$Mosaic" "sites" "LCircleCells$Sites;") (by decide +kernel)) (fun _ h9 => h9) rfl dX1_powerOf_5 ?_
  refine va_get (D := (dC, dI)) (ci := 2) (v := .ref xa) (C := RX2) (T := TX2) (N := 3) hx hb hts (by decide +kernel) hown hK hP 2 rfl rfl 0 (by decide) (hts (.fieldLink RX1 79 "CircleCells$Sites" "x" "[I") (by decide +kernel)) (fun _ h9 => h9) rfl dX1_powerOf_8 ?_
  refine lv_iload_n hx hb dX1_powerOf_11 rfl (lv_at hl 1 rfl) ?_
  refine q_iald hx hb hK hP 3 0 rfl rfl (k) rfl (by omega) (by decide) dX1_powerOf_12 ?_
  refine lv_aload_n hx hb dX1_powerOf_13 rfl (lv_at hl 0 rfl) ?_
  refine va_get (D := (dC, dI)) (ci := 1) (v := .ref s0) (C := RX1) (T := TX1) (N := 8) hx hb hts (by decide +kernel) hown hK hP 0 rfl rfl 0 (by decide) (hts (.fieldLink RX1 38 "CircleCells$Mosaic" "sites" "LCircleCells$Sites;") (by decide +kernel)) (fun _ h9 => h9) rfl dX1_powerOf_14 ?_
  refine va_get (D := (dC, dI)) (ci := 2) (v := .ref ya) (C := RX2) (T := TX2) (N := 3) hx hb hts (by decide +kernel) hown hK hP 2 rfl rfl 1 (by decide) (hts (.fieldLink RX1 82 "CircleCells$Sites" "y" "[I") (by decide +kernel)) (fun _ h9 => h9) rfl dX1_powerOf_17 ?_
  refine lv_iload_n hx hb dX1_powerOf_20 rfl (lv_at hl 1 rfl) ?_
  refine q_iald hx hb hK hP 4 0 rfl rfl (k) rfl (by omega) (by decide) dX1_powerOf_21 ?_
  refine q_cV (As := [.int (x k), .int (y k)]) (rest := []) ⟨hx, hb, hml, hown, hts⟩ (c_X0_power l dC dI g0 fx fy ax ay sp (x k) (y k)) (cwV 2 hts gX1_powerOf_X0_power rfl rfl rfl (by decide +kernel) ⟨Nat.le_of_ble_eq_true rfl, Nat.le_of_ble_eq_true rfl⟩) (q_pV hK hP [1] [] 0 1 rfl rfl rfl rfl rfl rfl) rfl hl.1 rfl (Nat.le_of_ble_eq_true rfl) ⟨Nat.zero_le _, Nat.zero_le _⟩ dX1_powerOf_22 ?_
  exact W.lret (v := j_pow fx fy ax ay sp (x k) (y k)) hx hb hr q_ret (fun _ h => nomatch h) dX1_powerOf_25
set_option maxHeartbeats 4000000 in
set_option maxRecDepth 100000 in
theorem c_X1_beginsCell (l : Launch) (dC : Nat → ClassId) (dI : Nat → Nat → Nat) (m0 s0 g0 ra sa oa ma : Nat) (cI : ClassId) (xa ya : Nat) (cc rc : Int32) (x y : Nat → Int32) (fx fy : Int32) (ax ay sp : Int64) (n a b : Nat) (ln : n ≤ 20) (la : a < n) (lb : b < n) : Met l yX1_beginsCell wsX1_beginsCell ({ frames := 2, cells := 0, slots := 0, locals := 47 }) (q_Pc (dC, dI) [.ref m0, .int (nI a), .int (nI b)] [(m0, .inr (1, [.ref s0, .ref g0, .ref ra, .ref sa, .ref oa, .int cc, .ref ma, .int rc])), (g0, .inr (0, [.int fx, .int fy, .long ax, .long ay, .long sp])), (s0, .inr (2, [.ref xa, .ref ya, .int (nI n)])), (xa, .inl (cI, 20, .inl x)), (ya, .inl (cI, 20, .inl y))] [(cI, .int)]) (k2_QcV (.int (bI (j_begins x y fx fy ax ay sp n a b 0)))) 0 0 (fun _ => False) := by
  refine Met.ofW (cc := cX1_beginsCell) (maxL := 7) (ret := (some .boolean)) (by decide) rfl ?_
  intro p e s m args below meth c s₁ B hml hv
  obtain ⟨rfl, hP, hK⟩ := hv
  have hx := B.exec
  have hb := B.bytes
  have hr := B.returns
  have hts := atoms_spec (ws := wsX1_beginsCell) B.pre
  have hown : s.vm.findClass RX1 = some m.cls := findClass_of_methodNamed B.named
  have hlocks := B.notSynchronized
  have hP : va_P (dC, dI) vwCl [(m0, .inr (1, [.ref s0, .ref g0, .ref ra, .ref sa, .ref oa, .int cc, .ref ma, .int rc])), (g0, .inr (0, [.int fx, .int fy, .long ax, .long ay, .long sp])), (s0, .inr (2, [.ref xa, .ref ya, .int (nI n)])), (xa, .inl (cI, 20, .inl x)), (ya, .inl (cI, 20, .inl y))] s.heap := hP
  have hl := lv_entry ([.ref m0, .int (nI a), .int (nI b)]) (n := 7) (Nat.le_of_ble_eq_true rfl)
  rw [lg_entry_eq]
  generalize (lg_sl ([.ref m0, .int (nI a), .int (nI b)]) ++ List.replicate (7 - (lg_sl ([.ref m0, .int (nI a), .int (nI b)])).length) Slot.unset).toArray = ls at hl ⊢
  have hl : lv_has ls 7 [(0, .ref m0), (1, .int (nI a)), (2, .int (nI b))] := hl
  refine lv_iconst (v := nI 0) hx hb dX1_beginsCell_0 (by decide) ?_
  refine lv_istore_n (lv' := [(3, .int (nI 0)), (0, .ref m0), (1, .int (nI a)), (2, .int (nI b))]) hx hb dX1_beginsCell_1 rfl hl (by decide) rfl (fun ls hl => ?_)
  have loop : ∀ (f : Nat) (k : Nat) (R : Bool) (ls : Array Slot), (k ≤ n) → (n + 1 ≤ k + f) → j_begins x y fx fy ax ay sp n a b k = R → lv_has ls 7 [(0, .ref m0), (1, .int (nI a)), (2, .int (nI b)), (3, .int (nI k))] → W p l e (headSpec wsX1_beginsCell ({ frames := 2, cells := 0, slots := 0, locals := 47 })).room s m ([.ref m0, .int (nI a), .int (nI b)] : List Value).toArray below meth c s.heap [] 0 0 (MQ below (k2_QcV (.int (bI R))) ([.ref m0, .int (nI a), .int (nI b)] : List Value).toArray s 0 0 (fun _ => False)) (F0 m 2 ls []) := by
    intro f
    induction f with
    | zero =>
      intro k R ls h1 h2
      omega
    | succ f ih_loop =>
      intro k R ls h1 h2 hF hl
      refine lv_iload_n hx hb dX1_beginsCell_2 rfl (lv_at hl 3 rfl) ?_
      refine lv_aload_n hx hb dX1_beginsCell_3 rfl (lv_at hl 0 rfl) ?_
      refine va_get (D := (dC, dI)) (ci := 1) (v := .ref s0) (C := RX1) (T := TX1) (N := 8) hx hb hts (by decide +kernel) hown hK hP 0 rfl rfl 0 (by decide) (hts (.fieldLink RX1 38 "CircleCells$Mosaic" "sites" "LCircleCells$Sites;") (by decide +kernel)) (fun _ h9 => h9) rfl dX1_beginsCell_4 ?_
      refine va_get (D := (dC, dI)) (ci := 2) (v := .int (nI n)) (C := RX2) (T := TX2) (N := 3) hx hb hts (by decide +kernel) hown hK hP 2 rfl rfl 2 (by decide) (hts (.fieldLink RX1 48 "CircleCells$Sites" "size" "I") (by decide +kernel)) (fun _ h9 => h9) rfl dX1_beginsCell_7 ?_
      refine q_icmp_ge (tgt := 72) (by omega) (by omega) hx hb dX1_beginsCell_10 (by decide) (fun c10 => ?_) (fun c10 => ?_)
      · rw [j_begins, if_neg (by omega)] at hF
        subst hF
        refine lv_iconst (v := bI true) hx hb dX1_beginsCell_72 (by decide) ?_
        exact W.zret (v := bI true) hx hb hr (bI_nar _) q_ret (fun _ h => nomatch h) dX1_beginsCell_73
      · rw [j_begins, if_pos c10] at hF
        refine lv_aload_n hx hb dX1_beginsCell_13 rfl (lv_at hl 0 rfl) ?_
        refine lv_iload_n hx hb dX1_beginsCell_14 rfl (lv_at hl 3 rfl) ?_
        refine q_cV (As := [.int (nI k)]) (rest := []) ⟨hx, hb, hml, hown, hts⟩ (c_X1_powerOf l dC dI m0 s0 g0 ra sa oa ma cI xa ya (nI n) cc rc x y fx fy ax ay sp k (by omega)) (cwV 1 hts gX1_beginsCell_X1_powerOf rfl rfl rfl (by decide +kernel) ⟨Nat.le_of_ble_eq_true rfl, Nat.le_of_ble_eq_true rfl⟩) (q_pV hK hP [0, 1, 2, 3, 4] [0] 1 0 rfl rfl rfl rfl rfl rfl) rfl hl.1 rfl (Nat.le_of_ble_eq_true rfl) ⟨Nat.zero_le _, Nat.zero_le _⟩ dX1_beginsCell_15 ?_
        refine lv_lstore (lv' := [(4, .long (j_pow fx fy ax ay sp (x k) (y k))), (0, .ref m0), (1, .int (nI a)), (2, .int (nI b)), (3, .int (nI k))]) hx hb dX1_beginsCell_18 hl (by decide) rfl (fun ls hl => ?_)
        refine lv_iload_n hx hb dX1_beginsCell_20 rfl (lv_at hl 4 rfl) ?_
        refine lv_iload_n hx hb dX1_beginsCell_21 rfl (lv_at hl 2 rfl) ?_
        refine q_icmp_lt (tgt := 38) (by omega) (by omega) hx hb dX1_beginsCell_22 (by decide) (fun c22 => ?_) (fun c22 => ?_)
        · rw [if_pos c22] at hF
          refine lv_iconst (v := bI true) hx hb dX1_beginsCell_38 (by decide) ?_
          refine lv_goto (tgt := 43) hx hb dX1_beginsCell_39 (by decide) ?_
          refine lv_istore (lv' := [(6, .int (bI true)), (4, .long (j_pow fx fy ax ay sp (x k) (y k))), (0, .ref m0), (1, .int (nI a)), (2, .int (nI b)), (3, .int (nI k))]) hx hb dX1_beginsCell_43 hl (by decide) rfl (fun ls hl => ?_)
          refine lv_lload hx hb dX1_beginsCell_45 (lv_at hl 1 rfl) ?_
          refine lv_lconst (v := 0) hx hb dX1_beginsCell_47 (by decide) ?_
          refine q_lcmp_lt (tgt := 64) hx hb dX1_beginsCell_48 dX1_beginsCell_49 (by decide) (fun c49 => ?_) (fun c49 => ?_)
          · rw [j_bg, if_pos c49] at hF
            subst hF
            refine lv_iconst (v := bI false) hx hb dX1_beginsCell_64 (by decide) ?_
            exact W.zret (v := bI false) hx hb hr (bI_nar _) q_ret (fun _ h => nomatch h) dX1_beginsCell_65
          · rw [j_bg, if_neg c49] at hF
            refine lv_lload hx hb dX1_beginsCell_52 (lv_at hl 1 rfl) ?_
            refine lv_lconst (v := 0) hx hb dX1_beginsCell_54 (by decide) ?_
            refine q_lcmp_ne (tgt := 66) hx hb dX1_beginsCell_55 dX1_beginsCell_56 (by decide) (fun c56 => ?_) (fun c56 => ?_)
            · rw [if_pos c56] at hF
              refine lv_iinc (v := nI (k + 1)) (lv' := [(3, .int (nI (k + 1))), (6, .int (bI true)), (4, .long (j_pow fx fy ax ay sp (x k) (y k))), (0, .ref m0), (1, .int (nI a)), (2, .int (nI b))]) hx hb dX1_beginsCell_66 hl (k := 5) rfl (by rw [show Int32.ofInt 1 = 1 from rfl]; exact nI_1 _) (by decide) rfl (fun ls hl => ?_)
              refine lv_goto (tgt := 2) hx hb dX1_beginsCell_69 (by decide) ?_
              exact ih_loop (k + 1) R ls (by omega) (by omega) hF (lv_sub hl [3, 4, 5, 0] rfl)
            · rw [if_neg (fun h => h c56)] at hF
              refine lv_iload hx hb dX1_beginsCell_59 (lv_at hl 0 rfl) ?_
              refine q_ifb_eq (tgt := 66) hx hb dX1_beginsCell_61 (by decide) (fun c61 => ?_) (fun c61 => ?_)
              · exact absurd c61 (by decide)
              · rw [if_neg (by decide)] at hF
                subst hF
                refine lv_iconst (v := bI false) hx hb dX1_beginsCell_64 (by decide) ?_
                exact W.zret (v := bI false) hx hb hr (bI_nar _) q_ret (fun _ h => nomatch h) dX1_beginsCell_65
        · rw [if_neg (by omega)] at hF
          refine lv_aload_n hx hb dX1_beginsCell_25 rfl (lv_at hl 1 rfl) ?_
          refine va_get (D := (dC, dI)) (ci := 1) (v := .ref s0) (C := RX1) (T := TX1) (N := 8) hx hb hts (by decide +kernel) hown hK hP 0 rfl rfl 0 (by decide) (hts (.fieldLink RX1 38 "CircleCells$Mosaic" "sites" "LCircleCells$Sites;") (by decide +kernel)) (fun _ h9 => h9) rfl dX1_beginsCell_26 ?_
          refine lv_iload_n hx hb dX1_beginsCell_29 rfl (lv_at hl 2 rfl) ?_
          refine lv_iload_n hx hb dX1_beginsCell_30 rfl (lv_at hl 3 rfl) ?_
          refine lv_iload_n hx hb dX1_beginsCell_31 rfl (lv_at hl 4 rfl) ?_
          refine q_cV (As := [.int (nI a), .int (nI b), .int (nI k)]) (rest := []) ⟨hx, hb, hml, hown, hts⟩ (c_X2_turn_ l dC dI s0 xa ya cI x y (nI n) a b k (by omega) (by omega) (by omega)) (cwV 3 hts gX1_beginsCell_X2_turn_ rfl rfl rfl (by decide +kernel) ⟨Nat.le_of_ble_eq_true rfl, Nat.le_of_ble_eq_true rfl⟩) (q_pV hK hP [2, 3, 4] [0] 2 2 rfl rfl rfl rfl rfl rfl) rfl hl.1 rfl (Nat.le_of_ble_eq_true rfl) ⟨Nat.zero_le _, Nat.zero_le _⟩ dX1_beginsCell_32 ?_
          refine lv_if_ge (tgt := 42) hx hb dX1_beginsCell_35 (by decide) (fun c35 => ?_) (fun c35 => ?_)
          · rw [if_pos c35] at hF
            refine lv_iconst (v := bI false) hx hb dX1_beginsCell_42 (by decide) ?_
            refine lv_istore (lv' := [(6, .int (bI false)), (4, .long (j_pow fx fy ax ay sp (x k) (y k))), (0, .ref m0), (1, .int (nI a)), (2, .int (nI b)), (3, .int (nI k))]) hx hb dX1_beginsCell_43 hl (by decide) rfl (fun ls hl => ?_)
            refine lv_lload hx hb dX1_beginsCell_45 (lv_at hl 1 rfl) ?_
            refine lv_lconst (v := 0) hx hb dX1_beginsCell_47 (by decide) ?_
            refine q_lcmp_lt (tgt := 64) hx hb dX1_beginsCell_48 dX1_beginsCell_49 (by decide) (fun c49 => ?_) (fun c49 => ?_)
            · rw [j_bg, if_pos c49] at hF
              subst hF
              refine lv_iconst (v := bI false) hx hb dX1_beginsCell_64 (by decide) ?_
              exact W.zret (v := bI false) hx hb hr (bI_nar _) q_ret (fun _ h => nomatch h) dX1_beginsCell_65
            · rw [j_bg, if_neg c49] at hF
              refine lv_lload hx hb dX1_beginsCell_52 (lv_at hl 1 rfl) ?_
              refine lv_lconst (v := 0) hx hb dX1_beginsCell_54 (by decide) ?_
              refine q_lcmp_ne (tgt := 66) hx hb dX1_beginsCell_55 dX1_beginsCell_56 (by decide) (fun c56 => ?_) (fun c56 => ?_)
              · rw [if_pos c56] at hF
                refine lv_iinc (v := nI (k + 1)) (lv' := [(3, .int (nI (k + 1))), (6, .int (bI false)), (4, .long (j_pow fx fy ax ay sp (x k) (y k))), (0, .ref m0), (1, .int (nI a)), (2, .int (nI b))]) hx hb dX1_beginsCell_66 hl (k := 5) rfl (by rw [show Int32.ofInt 1 = 1 from rfl]; exact nI_1 _) (by decide) rfl (fun ls hl => ?_)
                refine lv_goto (tgt := 2) hx hb dX1_beginsCell_69 (by decide) ?_
                exact ih_loop (k + 1) R ls (by omega) (by omega) hF (lv_sub hl [3, 4, 5, 0] rfl)
              · rw [if_neg (fun h => h c56)] at hF
                refine lv_iload hx hb dX1_beginsCell_59 (lv_at hl 0 rfl) ?_
                refine q_ifb_eq (tgt := 66) hx hb dX1_beginsCell_61 (by decide) (fun c61 => ?_) (fun c61 => ?_)
                · rw [if_pos c61] at hF
                  refine lv_iinc (v := nI (k + 1)) (lv' := [(3, .int (nI (k + 1))), (6, .int (bI false)), (4, .long (j_pow fx fy ax ay sp (x k) (y k))), (0, .ref m0), (1, .int (nI a)), (2, .int (nI b))]) hx hb dX1_beginsCell_66 hl (k := 5) rfl (by rw [show Int32.ofInt 1 = 1 from rfl]; exact nI_1 _) (by decide) rfl (fun ls hl => ?_)
                  refine lv_goto (tgt := 2) hx hb dX1_beginsCell_69 (by decide) ?_
                  exact ih_loop (k + 1) R ls (by omega) (by omega) hF (lv_sub hl [3, 4, 5, 0] rfl)
                · exact absurd c61 (by decide)
          · rw [if_neg c35] at hF
            refine lv_iconst (v := bI true) hx hb dX1_beginsCell_38 (by decide) ?_
            refine lv_goto (tgt := 43) hx hb dX1_beginsCell_39 (by decide) ?_
            refine lv_istore (lv' := [(6, .int (bI true)), (4, .long (j_pow fx fy ax ay sp (x k) (y k))), (0, .ref m0), (1, .int (nI a)), (2, .int (nI b)), (3, .int (nI k))]) hx hb dX1_beginsCell_43 hl (by decide) rfl (fun ls hl => ?_)
            refine lv_lload hx hb dX1_beginsCell_45 (lv_at hl 1 rfl) ?_
            refine lv_lconst (v := 0) hx hb dX1_beginsCell_47 (by decide) ?_
            refine q_lcmp_lt (tgt := 64) hx hb dX1_beginsCell_48 dX1_beginsCell_49 (by decide) (fun c49 => ?_) (fun c49 => ?_)
            · rw [j_bg, if_pos c49] at hF
              subst hF
              refine lv_iconst (v := bI false) hx hb dX1_beginsCell_64 (by decide) ?_
              exact W.zret (v := bI false) hx hb hr (bI_nar _) q_ret (fun _ h => nomatch h) dX1_beginsCell_65
            · rw [j_bg, if_neg c49] at hF
              refine lv_lload hx hb dX1_beginsCell_52 (lv_at hl 1 rfl) ?_
              refine lv_lconst (v := 0) hx hb dX1_beginsCell_54 (by decide) ?_
              refine q_lcmp_ne (tgt := 66) hx hb dX1_beginsCell_55 dX1_beginsCell_56 (by decide) (fun c56 => ?_) (fun c56 => ?_)
              · rw [if_pos c56] at hF
                refine lv_iinc (v := nI (k + 1)) (lv' := [(3, .int (nI (k + 1))), (6, .int (bI true)), (4, .long (j_pow fx fy ax ay sp (x k) (y k))), (0, .ref m0), (1, .int (nI a)), (2, .int (nI b))]) hx hb dX1_beginsCell_66 hl (k := 5) rfl (by rw [show Int32.ofInt 1 = 1 from rfl]; exact nI_1 _) (by decide) rfl (fun ls hl => ?_)
                refine lv_goto (tgt := 2) hx hb dX1_beginsCell_69 (by decide) ?_
                exact ih_loop (k + 1) R ls (by omega) (by omega) hF (lv_sub hl [3, 4, 5, 0] rfl)
              · rw [if_neg (fun h => h c56)] at hF
                refine lv_iload hx hb dX1_beginsCell_59 (lv_at hl 0 rfl) ?_
                refine q_ifb_eq (tgt := 66) hx hb dX1_beginsCell_61 (by decide) (fun c61 => ?_) (fun c61 => ?_)
                · exact absurd c61 (by decide)
                · rw [if_neg (by decide)] at hF
                  subst hF
                  refine lv_iconst (v := bI false) hx hb dX1_beginsCell_64 (by decide) ?_
                  exact W.zret (v := bI false) hx hb hr (bI_nar _) q_ret (fun _ h => nomatch h) dX1_beginsCell_65
  exact loop (n + 1) 0 _ ls (by omega) (by omega) rfl (lv_sub hl [1, 2, 3, 0] rfl)
end
section
/-! Sites, Circle, Mosaic: what their writing methods leave -/
def j_drop (n : Nat) (x y : Nat → Int32) (j : Nat) : (Nat → Int32) × (Nat → Int32) := if j < n then j_drop n (upd x (j - 1) (x j)) (upd y (j - 1) (y j)) (j + 1) else (x, y)
termination_by n - j
def j_ax (bx d1 u v : Int64) : Int64 := v * (bx * bx + d1 * d1) - d1 * (u * u + v * v)
def j_ay (bx d1 u v : Int64) : Int64 := bx * (u * u + v * v) - u * (bx * bx + d1 * d1)
def j_sp (bx d1 u v : Int64) : Int64 := 2 * (bx * v - d1 * u)
def j_lay (x y : Nat → Int32) (a b d : Nat) : Int32 × Int32 × Int64 × Int64 × Int64 := (x a, y a, j_ax (x b - x a).toInt64 (y b - y a).toInt64 (x d - x a).toInt64 (y d - y a).toInt64, j_ay (x b - x a).toInt64 (y b - y a).toInt64 (x d - x a).toInt64 (y d - y a).toInt64, j_sp (x b - x a).toInt64 (y b - y a).toInt64 (x d - x a).toInt64 (y d - y a).toInt64)
def j_powC (K : Int32 × Int32 × Int64 × Int64 × Int64) (px py : Int32) : Int64 := j_pow K.1 K.2.1 K.2.2.1 K.2.2.2.1 K.2.2.2.2 px py
def j_left (x y : Nat → Int32) (n a b : Nat) (t : Bool) (K : Int32 × Int32 × Int64 × Int64 × Int64) (k : Nat) : Bool × Int32 × Int32 × Int64 × Int64 × Int64 :=
  if k < n then (if j_turn x y a b (x k) (y k) ≤ 0 then j_left x y n a b t K (k + 1) else if t = false then j_left x y n a b true (j_lay x y a b k) (k + 1) else if 0 ≤ j_powC K (x k) (y k) then j_left x y n a b t K (k + 1) else j_left x y n a b true (j_lay x y a b k) (k + 1)) else (t, K)
termination_by n - k
def j_ins (x y : Nat → Int32) (fi v : Nat) (rg : Nat → Nat) (t : Nat) : Nat → Nat :=
  if t ≤ fi + 1 then updN rg t v else if 0 ≤ j_turn x y (rg fi) (rg (t - 1)) (x v) (y v) then updN rg t v else j_ins x y fi v (updN rg t (rg (t - 1))) (t - 1)
termination_by t
def j_claim (rg sr : Nat → Nat) (d : Nat) (ow : Nat → Int32) (i : Nat) : Nat → Int32 :=
  if i < sr (d + 1) - sr d then j_claim rg sr d (upd ow (rg (sr d + i) * 20 + j_after rg sr d i) (nI d)) (i + 1) else ow
termination_by sr (d + 1) - sr d - i
def j_fill (v : Int32) (N : Nat) (g : Nat → Int32) (k : Nat) : Nat → Int32 := if k < N then j_fill v N (upd g k v) (k + 1) else g
termination_by N - k
set_option maxHeartbeats 4000000 in
set_option maxRecDepth 100000 in
theorem c_X2_put (l : Launch) (dC : Nat → ClassId) (dI : Nat → Nat → Nat) (h0 xa ya : Nat) (cI : ClassId) (x y : Nat → Int32) (n : Int32) (k : Nat) (px py : Int32) (lk : k < 20) : Met l yX2_put wsX2_put ({ frames := 0, cells := 0, slots := 0, locals := 0 }) (q_Pm (dC, dI) [.ref h0, .int (nI k), .int px, .int py] [(h0, .inr (2, [.ref xa, .ref ya, .int n])), (xa, .inl (cI, 20, .inl x)), (ya, .inl (cI, 20, .inl y))] [(cI, .int)]) (q_Qm (dC, dI) (q_in [(h0, .inr (2, [.ref xa, .ref ya, .int n])), (xa, .inl (cI, 20, .inl x)), (ya, .inl (cI, 20, .inl y))]) none [(h0, .inr (2, [.ref xa, .ref ya, .int n])), (xa, .inl (cI, 20, .inl (upd x k px))), (ya, .inl (cI, 20, .inl (upd y k py)))]) 0 0 (q_in [(h0, .inr (2, [.ref xa, .ref ya, .int n])), (xa, .inl (cI, 20, .inl x)), (ya, .inl (cI, 20, .inl y))]) := by
  refine Met.ofW (cc := cX2_put) (maxL := 4) (ret := none) (by decide) rfl ?_
  intro p e s m args below meth c s₁ B hml hv
  obtain ⟨rfl, hP, hK, hD0⟩ := hv
  have hx := B.exec
  have hb := B.bytes
  have hr := B.returns
  have hts := atoms_spec (ws := wsX2_put) B.pre
  have hown : s.vm.findClass RX2 = some m.cls := findClass_of_methodNamed B.named
  have hlocks := B.notSynchronized
  have hD := q_inD hD0
  generalize hAe : q_in [(h0, .inr (2, [.ref xa, .ref ya, .int n])), (xa, .inl (cI, 20, .inl x)), (ya, .inl (cI, 20, .inl y))] = A at hD ⊢
  have hS : va_S A s.heap s.heap [] := va_S.rf
  have hP : va_P (dC, dI) vwCl [(h0, .inr (2, [.ref xa, .ref ya, .int n])), (xa, .inl (cI, 20, .inl x)), (ya, .inl (cI, 20, .inl y))] s.heap := hP
  have hl := lv_entry ([.ref h0, .int (nI k), .int px, .int py]) (n := 4) (Nat.le_of_ble_eq_true rfl)
  rw [lg_entry_eq]
  generalize (lg_sl ([.ref h0, .int (nI k), .int px, .int py]) ++ List.replicate (4 - (lg_sl ([.ref h0, .int (nI k), .int px, .int py])).length) Slot.unset).toArray = ls at hl ⊢
  have hl : lv_has ls 4 [(0, .ref h0), (1, .int (nI k)), (2, .int px), (3, .int py)] := hl
  refine lv_aload_n hx hb dX2_put_0 rfl (lv_at hl 0 rfl) ?_
  refine va_get (D := (dC, dI)) (ci := 2) (v := .ref xa) (C := RX2) (T := TX2) (N := 3) hx hb hts (by decide +kernel) hown hK hP 0 rfl rfl 0 (by decide) (hts (.fieldLink RX2 9 "CircleCells$Sites" "x" "[I") (by decide +kernel)) (fun _ h9 => h9) rfl dX2_put_1 ?_
  refine lv_iload_n hx hb dX2_put_4 rfl (lv_at hl 1 rfl) ?_
  refine lv_iload_n hx hb dX2_put_5 rfl (lv_at hl 2 rfl) ?_
  refine q_iast (ws' := [(h0, .inr (2, [.ref xa, .ref ya, .int n])), (xa, .inl (cI, 20, .inl (upd x k px))), (ya, .inl (cI, 20, .inl y))]) hx hb hK hP hD hS 1 0 rfl rfl (k) rfl (by omega) (by decide) dX2_put_6 rfl (fun H locs hP hD hS => ?_)
  refine lv_aload_n hx hb dX2_put_7 rfl (lv_at hl 0 rfl) ?_
  refine va_get (D := (dC, dI)) (ci := 2) (v := .ref ya) (C := RX2) (T := TX2) (N := 3) hx hb hts (by decide +kernel) hown hK hP 0 rfl rfl 1 (by decide) (hts (.fieldLink RX2 15 "CircleCells$Sites" "y" "[I") (by decide +kernel)) (fun _ h9 => h9) rfl dX2_put_8 ?_
  refine lv_iload_n hx hb dX2_put_11 rfl (lv_at hl 1 rfl) ?_
  refine lv_iload_n hx hb dX2_put_12 rfl (lv_at hl 3 rfl) ?_
  refine q_iast (ws' := [(h0, .inr (2, [.ref xa, .ref ya, .int n])), (xa, .inl (cI, 20, .inl (upd x k px))), (ya, .inl (cI, 20, .inl (upd y k py)))]) hx hb hK hP hD hS 2 0 rfl rfl (k) rfl (by omega) (by decide) dX2_put_13 rfl (fun H locs hP hD hS => ?_)
  exact W.vret hx hb hr (q_retm hP hS) hS.2.2 dX2_put_14
set_option maxHeartbeats 4000000 in
set_option maxRecDepth 100000 in
theorem c_X2_append (l : Launch) (dC : Nat → ClassId) (dI : Nat → Nat → Nat) (h0 xa ya : Nat) (cI : ClassId) (x y : Nat → Int32) (n : Nat) (px py : Int32) (ln : n < 20) : Met l yX2_append wsX2_append ({ frames := 1, cells := 0, slots := 0, locals := 23 }) (q_Pm (dC, dI) [.ref h0, .int px, .int py] [(h0, .inr (2, [.ref xa, .ref ya, .int (nI n)])), (xa, .inl (cI, 20, .inl x)), (ya, .inl (cI, 20, .inl y))] [(cI, .int)]) (q_Qm (dC, dI) (q_in [(h0, .inr (2, [.ref xa, .ref ya, .int (nI n)])), (xa, .inl (cI, 20, .inl x)), (ya, .inl (cI, 20, .inl y))]) (some (.int (nI n))) [(h0, .inr (2, [.ref xa, .ref ya, .int (nI (n + 1))])), (xa, .inl (cI, 20, .inl (upd x n px))), (ya, .inl (cI, 20, .inl (upd y n py)))]) 0 0 (q_in [(h0, .inr (2, [.ref xa, .ref ya, .int (nI n)])), (xa, .inl (cI, 20, .inl x)), (ya, .inl (cI, 20, .inl y))]) := by
  refine Met.ofW (cc := cX2_append) (maxL := 4) (ret := (some .int)) (by decide) rfl ?_
  intro p e s m args below meth c s₁ B hml hv
  obtain ⟨rfl, hP, hK, hD0⟩ := hv
  have hx := B.exec
  have hb := B.bytes
  have hr := B.returns
  have hts := atoms_spec (ws := wsX2_append) B.pre
  have hown : s.vm.findClass RX2 = some m.cls := findClass_of_methodNamed B.named
  have hlocks := B.notSynchronized
  have hD := q_inD hD0
  generalize hAe : q_in [(h0, .inr (2, [.ref xa, .ref ya, .int (nI n)])), (xa, .inl (cI, 20, .inl x)), (ya, .inl (cI, 20, .inl y))] = A at hD ⊢
  have hS : va_S A s.heap s.heap [] := va_S.rf
  have hP : va_P (dC, dI) vwCl [(h0, .inr (2, [.ref xa, .ref ya, .int (nI n)])), (xa, .inl (cI, 20, .inl x)), (ya, .inl (cI, 20, .inl y))] s.heap := hP
  have hl := lv_entry ([.ref h0, .int px, .int py]) (n := 4) (Nat.le_of_ble_eq_true rfl)
  rw [lg_entry_eq]
  generalize (lg_sl ([.ref h0, .int px, .int py]) ++ List.replicate (4 - (lg_sl ([.ref h0, .int px, .int py])).length) Slot.unset).toArray = ls at hl ⊢
  have hl : lv_has ls 4 [(0, .ref h0), (1, .int px), (2, .int py)] := hl
  refine lv_aload_n hx hb dX2_append_0 rfl (lv_at hl 0 rfl) ?_
  refine va_get (D := (dC, dI)) (ci := 2) (v := .int (nI n)) (C := RX2) (T := TX2) (N := 3) hx hb hts (by decide +kernel) hown hK hP 0 rfl rfl 2 (by decide) (hts (.fieldLink RX2 18 "CircleCells$Sites" "size" "I") (by decide +kernel)) (fun _ h9 => h9) rfl dX2_append_1 ?_
  refine lv_istore_n (lv' := [(3, .int (nI n)), (0, .ref h0), (1, .int px), (2, .int py)]) hx hb dX2_append_4 rfl hl (by decide) rfl (fun ls hl => ?_)
  refine lv_aload_n hx hb dX2_append_5 rfl (lv_at hl 1 rfl) ?_
  refine lv_iload_n hx hb dX2_append_6 rfl (lv_at hl 0 rfl) ?_
  refine lv_iload_n hx hb dX2_append_7 rfl (lv_at hl 2 rfl) ?_
  refine lv_iload_n hx hb dX2_append_8 rfl (lv_at hl 3 rfl) ?_
  refine q_mV (wc' := [(h0, .inr (2, [.ref xa, .ref ya, .int (nI n)])), (xa, .inl (cI, 20, .inl (upd x n px))), (ya, .inl (cI, 20, .inl (upd y n py)))]) (wsN := [(h0, .inr (2, [.ref xa, .ref ya, .int (nI n)])), (xa, .inl (cI, 20, .inl (upd x n px))), (ya, .inl (cI, 20, .inl (upd y n py)))]) (As := [.int (nI n), .int px, .int py]) (rest := []) ⟨hx, hb, hml, hown, hts⟩ (c_X2_put l dC dI h0 xa ya cI x y (nI n) n px py (by omega)) (cwV 3 hts gX2_append_X2_put rfl rfl rfl (by decide +kernel) ⟨Nat.le_of_ble_eq_true rfl, Nat.le_of_ble_eq_true rfl⟩) hK hP hD hS [0, 1, 2] [0] 2 0 rfl rfl rfl rfl rfl rfl rfl rfl rfl hl.1 rfl (Nat.le_of_ble_eq_true rfl) ⟨Nat.zero_le _, Nat.zero_le _⟩ dX2_append_9 rfl (fun H locs hP hD hS => ?_)
  refine W.eq (g2 := F0 m 12 ls []) rfl ?_
  refine lv_aload_n hx hb dX2_append_12 rfl (lv_at hl 1 rfl) ?_
  refine lv_dup hx hb dX2_append_13 rfl ?_
  refine va_get (D := (dC, dI)) (ci := 2) (v := .int (nI n)) (C := RX2) (T := TX2) (N := 3) hx hb hts (by decide +kernel) hown hK hP 0 rfl rfl 2 (by decide) (hts (.fieldLink RX2 18 "CircleCells$Sites" "size" "I") (by decide +kernel)) (fun _ h9 => h9) rfl dX2_append_14 ?_
  refine lv_iconst (v := nI 1) hx hb dX2_append_17 (by decide) ?_
  refine q_iadd hx hb dX2_append_18 ?_
  refine va_put (D := (dC, dI)) (ci := 2) (v := .int (nI (n + 1))) (ty := .int) (C := RX2) (T := TX2) (N := 3) hx hb hts (by decide +kernel) tyX2 tyX2_ok nmX2 hown hK hP hD hS 0 rfl rfl 2 (by decide) (hts (.fieldLink RX2 18 "CircleCells$Sites" "size" "I") (by decide +kernel)) (fun _ h9 => h9) rfl (by decide +kernel) rfl rfl (Nat.le_of_ble_eq_true rfl) dX2_append_19 (fun H locs hP hD hS => ?_)
  have hP : va_P (dC, dI) vwCl [(h0, .inr (2, [.ref xa, .ref ya, .int (nI (n + 1))])), (xa, .inl (cI, 20, .inl (upd x n px))), (ya, .inl (cI, 20, .inl (upd y n py)))] H := hP
  have hD : va_D A [(h0, .inr (2, [.ref xa, .ref ya, .int (nI (n + 1))])), (xa, .inl (cI, 20, .inl (upd x n px))), (ya, .inl (cI, 20, .inl (upd y n py)))] := hD
  refine lv_iload_n hx hb dX2_append_22 rfl (lv_at hl 0 rfl) ?_
  exact W.iret (v := nI n) hx hb hr (q_retm hP hS) hS.2.2 dX2_append_23
set_option maxHeartbeats 4000000 in
set_option maxRecDepth 100000 in
theorem c_X2_drop (l : Launch) (dC : Nat → ClassId) (dI : Nat → Nat → Nat) (h0 xa ya : Nat) (cI : ClassId) (x y : Nat → Int32) (n k : Nat) (lk : k < n) (ln : n ≤ 20) (R : (Nat → Int32) × (Nat → Int32)) (hR : j_drop n x y (k + 1) = R) : Met l yX2_drop wsX2_drop ({ frames := 1, cells := 0, slots := 0, locals := 23 }) (q_Pm (dC, dI) [.ref h0, .int (nI k)] [(h0, .inr (2, [.ref xa, .ref ya, .int (nI n)])), (xa, .inl (cI, 20, .inl x)), (ya, .inl (cI, 20, .inl y))] [(cI, .int)]) (q_Qm (dC, dI) (q_in [(h0, .inr (2, [.ref xa, .ref ya, .int (nI n)])), (xa, .inl (cI, 20, .inl x)), (ya, .inl (cI, 20, .inl y))]) none [(h0, .inr (2, [.ref xa, .ref ya, .int (nI (n - 1))])), (xa, .inl (cI, 20, .inl R.1)), (ya, .inl (cI, 20, .inl R.2))]) 0 0 (q_in [(h0, .inr (2, [.ref xa, .ref ya, .int (nI n)])), (xa, .inl (cI, 20, .inl x)), (ya, .inl (cI, 20, .inl y))]) := by
  refine Met.ofW (cc := cX2_drop) (maxL := 3) (ret := none) (by decide) rfl ?_
  intro p e s m args below meth c s₁ B hml hv
  obtain ⟨rfl, hP, hK, hD0⟩ := hv
  have hx := B.exec
  have hb := B.bytes
  have hr := B.returns
  have hts := atoms_spec (ws := wsX2_drop) B.pre
  have hown : s.vm.findClass RX2 = some m.cls := findClass_of_methodNamed B.named
  have hlocks := B.notSynchronized
  have hD := q_inD hD0
  generalize hAe : q_in [(h0, .inr (2, [.ref xa, .ref ya, .int (nI n)])), (xa, .inl (cI, 20, .inl x)), (ya, .inl (cI, 20, .inl y))] = A at hD ⊢
  have hS : va_S A s.heap s.heap [] := va_S.rf
  have hP : va_P (dC, dI) vwCl [(h0, .inr (2, [.ref xa, .ref ya, .int (nI n)])), (xa, .inl (cI, 20, .inl x)), (ya, .inl (cI, 20, .inl y))] s.heap := hP
  have hl := lv_entry ([.ref h0, .int (nI k)]) (n := 3) (Nat.le_of_ble_eq_true rfl)
  rw [lg_entry_eq]
  generalize (lg_sl ([.ref h0, .int (nI k)]) ++ List.replicate (3 - (lg_sl ([.ref h0, .int (nI k)])).length) Slot.unset).toArray = ls at hl ⊢
  have hl : lv_has ls 3 [(0, .ref h0), (1, .int (nI k))] := hl
  refine lv_iload_n hx hb dX2_drop_0 rfl (lv_at hl 1 rfl) ?_
  refine lv_iconst (v := nI 1) hx hb dX2_drop_1 (by decide) ?_
  refine q_iadd hx hb dX2_drop_2 ?_
  refine lv_istore_n (lv' := [(2, .int (nI (k + 1))), (0, .ref h0), (1, .int (nI k))]) hx hb dX2_drop_3 rfl hl (by decide) rfl (fun ls hl => ?_)
  have loop : ∀ (f : Nat) (x : Nat → Int32) (y : Nat → Int32) (j : Nat) (R : (Nat → Int32) × (Nat → Int32)) (H : Heap) (locs : List Loc) (ls : Array Slot), (j ≤ n) → (n + 1 ≤ j + f) → (1 ≤ j) → j_drop n x y j = R → va_P (dC, dI) vwCl [(h0, .inr (2, [.ref xa, .ref ya, .int (nI n)])), (xa, .inl (cI, 20, .inl x)), (ya, .inl (cI, 20, .inl y))] H → va_D A [(h0, .inr (2, [.ref xa, .ref ya, .int (nI n)])), (xa, .inl (cI, 20, .inl x)), (ya, .inl (cI, 20, .inl y))] → va_S A s.heap H locs → lv_has ls 3 [(0, .ref h0), (1, .int (nI k)), (2, .int (nI j))] → W p l e (headSpec wsX2_drop ({ frames := 1, cells := 0, slots := 0, locals := 23 })).room s m ([.ref h0, .int (nI k)] : List Value).toArray below meth c H locs 0 0 (MQ below (q_Qm (dC, dI) A none [(h0, .inr (2, [.ref xa, .ref ya, .int (nI (n - 1))])), (xa, .inl (cI, 20, .inl R.1)), (ya, .inl (cI, 20, .inl R.2))]) ([.ref h0, .int (nI k)] : List Value).toArray s 0 0 A) (F0 m 4 ls []) := by
    intro f
    induction f with
    | zero =>
      intro x y j R H locs ls h1 h2 h3
      omega
    | succ f ih_loop =>
      intro x y j R H locs ls h1 h2 h3 hF hP hD hS hl
      refine lv_iload_n hx hb dX2_drop_4 rfl (lv_at hl 2 rfl) ?_
      refine lv_aload_n hx hb dX2_drop_5 rfl (lv_at hl 0 rfl) ?_
      refine va_get (D := (dC, dI)) (ci := 2) (v := .int (nI n)) (C := RX2) (T := TX2) (N := 3) hx hb hts (by decide +kernel) hown hK hP 0 rfl rfl 2 (by decide) (hts (.fieldLink RX2 18 "CircleCells$Sites" "size" "I") (by decide +kernel)) (fun _ h9 => h9) rfl dX2_drop_6 ?_
      refine q_icmp_ge (tgt := 37) (by omega) (by omega) hx hb dX2_drop_9 (by decide) (fun c9 => ?_) (fun c9 => ?_)
      · rw [j_drop, if_neg (by omega)] at hF
        subst hF
        refine lv_aload_n hx hb dX2_drop_37 rfl (lv_at hl 0 rfl) ?_
        refine lv_dup hx hb dX2_drop_38 rfl ?_
        refine va_get (D := (dC, dI)) (ci := 2) (v := .int (nI n)) (C := RX2) (T := TX2) (N := 3) hx hb hts (by decide +kernel) hown hK hP 0 rfl rfl 2 (by decide) (hts (.fieldLink RX2 18 "CircleCells$Sites" "size" "I") (by decide +kernel)) (fun _ h9 => h9) rfl dX2_drop_39 ?_
        refine lv_iconst (v := nI 1) hx hb dX2_drop_42 (by decide) ?_
        refine q_isub (by omega) hx hb dX2_drop_43 ?_
        refine va_put (D := (dC, dI)) (ci := 2) (v := .int (nI (n - 1))) (ty := .int) (C := RX2) (T := TX2) (N := 3) hx hb hts (by decide +kernel) tyX2 tyX2_ok nmX2 hown hK hP hD hS 0 rfl rfl 2 (by decide) (hts (.fieldLink RX2 18 "CircleCells$Sites" "size" "I") (by decide +kernel)) (fun _ h9 => h9) rfl (by decide +kernel) rfl rfl (Nat.le_of_ble_eq_true rfl) dX2_drop_44 (fun H locs hP hD hS => ?_)
        have hP : va_P (dC, dI) vwCl [(h0, .inr (2, [.ref xa, .ref ya, .int (nI (n - 1))])), (xa, .inl (cI, 20, .inl x)), (ya, .inl (cI, 20, .inl y))] H := hP
        have hD : va_D A [(h0, .inr (2, [.ref xa, .ref ya, .int (nI (n - 1))])), (xa, .inl (cI, 20, .inl x)), (ya, .inl (cI, 20, .inl y))] := hD
        exact W.vret hx hb hr (q_retm hP hS) hS.2.2 dX2_drop_47
      · rw [j_drop, if_pos c9] at hF
        refine lv_aload_n hx hb dX2_drop_12 rfl (lv_at hl 0 rfl) ?_
        refine lv_iload_n hx hb dX2_drop_13 rfl (lv_at hl 2 rfl) ?_
        refine lv_iconst (v := nI 1) hx hb dX2_drop_14 (by decide) ?_
        refine q_isub (by omega) hx hb dX2_drop_15 ?_
        refine lv_aload_n hx hb dX2_drop_16 rfl (lv_at hl 0 rfl) ?_
        refine va_get (D := (dC, dI)) (ci := 2) (v := .ref xa) (C := RX2) (T := TX2) (N := 3) hx hb hts (by decide +kernel) hown hK hP 0 rfl rfl 0 (by decide) (hts (.fieldLink RX2 9 "CircleCells$Sites" "x" "[I") (by decide +kernel)) (fun _ h9 => h9) rfl dX2_drop_17 ?_
        refine lv_iload_n hx hb dX2_drop_20 rfl (lv_at hl 2 rfl) ?_
        refine q_iald hx hb hK hP 1 0 rfl rfl (j) rfl (by omega) (by decide) dX2_drop_21 ?_
        refine lv_aload_n hx hb dX2_drop_22 rfl (lv_at hl 0 rfl) ?_
        refine va_get (D := (dC, dI)) (ci := 2) (v := .ref ya) (C := RX2) (T := TX2) (N := 3) hx hb hts (by decide +kernel) hown hK hP 0 rfl rfl 1 (by decide) (hts (.fieldLink RX2 15 "CircleCells$Sites" "y" "[I") (by decide +kernel)) (fun _ h9 => h9) rfl dX2_drop_23 ?_
        refine lv_iload_n hx hb dX2_drop_26 rfl (lv_at hl 2 rfl) ?_
        refine q_iald hx hb hK hP 2 0 rfl rfl (j) rfl (by omega) (by decide) dX2_drop_27 ?_
        refine q_mV (wc' := [(h0, .inr (2, [.ref xa, .ref ya, .int (nI n)])), (xa, .inl (cI, 20, .inl (upd x (j - 1) (x j)))), (ya, .inl (cI, 20, .inl (upd y (j - 1) (y j))))]) (wsN := [(h0, .inr (2, [.ref xa, .ref ya, .int (nI n)])), (xa, .inl (cI, 20, .inl (upd x (j - 1) (x j)))), (ya, .inl (cI, 20, .inl (upd y (j - 1) (y j))))]) (As := [.int (nI (j - 1)), .int (x j), .int (y j)]) (rest := []) ⟨hx, hb, hml, hown, hts⟩ (c_X2_put l dC dI h0 xa ya cI x y (nI n) (j - 1) (x j) (y j) (by omega)) (cwV 3 hts gX2_drop_X2_put rfl rfl rfl (by decide +kernel) ⟨Nat.le_of_ble_eq_true rfl, Nat.le_of_ble_eq_true rfl⟩) hK hP hD hS [0, 1, 2] [0] 2 0 rfl rfl rfl rfl rfl rfl rfl rfl rfl hl.1 rfl (Nat.le_of_ble_eq_true rfl) ⟨Nat.zero_le _, Nat.zero_le _⟩ dX2_drop_28 rfl (fun H locs hP hD hS => ?_)
        refine W.eq (g2 := F0 m 31 ls []) rfl ?_
        refine lv_iinc (v := nI (j + 1)) (lv' := [(2, .int (nI (j + 1))), (0, .ref h0), (1, .int (nI k))]) hx hb dX2_drop_31 hl (k := 2) rfl (by rw [show Int32.ofInt 1 = 1 from rfl]; exact nI_1 _) (by decide) rfl (fun ls hl => ?_)
        refine lv_goto (tgt := 4) hx hb dX2_drop_34 (by decide) ?_
        exact ih_loop (upd x (j - 1) (x j)) (upd y (j - 1) (y j)) (j + 1) R H locs ls (by omega) (by omega) (by omega) hF hP hD hS (lv_sub hl [1, 2, 0] rfl)
  exact loop (n + 1) x y (k + 1) R _ _ ls (by omega) (by omega) (by omega) hR hP hD hS (lv_sub hl [1, 2, 0] rfl)
set_option maxHeartbeats 4000000 in
set_option maxRecDepth 100000 in
theorem c_X2_dropAll (l : Launch) (dC : Nat → ClassId) (dI : Nat → Nat → Nat) (h0 xa ya : Nat) (cI : ClassId) (x y : Nat → Int32) (n : Int32) : Met l yX2_dropAll wsX2_dropAll ({ frames := 0, cells := 0, slots := 0, locals := 0 }) (q_Pm (dC, dI) [.ref h0] [(h0, .inr (2, [.ref xa, .ref ya, .int n])), (xa, .inl (cI, 20, .inl x)), (ya, .inl (cI, 20, .inl y))] [(cI, .int)]) (q_Qm (dC, dI) (q_in [(h0, .inr (2, [.ref xa, .ref ya, .int n])), (xa, .inl (cI, 20, .inl x)), (ya, .inl (cI, 20, .inl y))]) none [(h0, .inr (2, [.ref xa, .ref ya, .int (nI 0)])), (xa, .inl (cI, 20, .inl x)), (ya, .inl (cI, 20, .inl y))]) 0 0 (q_in [(h0, .inr (2, [.ref xa, .ref ya, .int n])), (xa, .inl (cI, 20, .inl x)), (ya, .inl (cI, 20, .inl y))]) := by
  refine Met.ofW (cc := cX2_dropAll) (maxL := 1) (ret := none) (by decide) rfl ?_
  intro p e s m args below meth c s₁ B hml hv
  obtain ⟨rfl, hP, hK, hD0⟩ := hv
  have hx := B.exec
  have hb := B.bytes
  have hr := B.returns
  have hts := atoms_spec (ws := wsX2_dropAll) B.pre
  have hown : s.vm.findClass RX2 = some m.cls := findClass_of_methodNamed B.named
  have hlocks := B.notSynchronized
  have hD := q_inD hD0
  generalize hAe : q_in [(h0, .inr (2, [.ref xa, .ref ya, .int n])), (xa, .inl (cI, 20, .inl x)), (ya, .inl (cI, 20, .inl y))] = A at hD ⊢
  have hS : va_S A s.heap s.heap [] := va_S.rf
  have hP : va_P (dC, dI) vwCl [(h0, .inr (2, [.ref xa, .ref ya, .int n])), (xa, .inl (cI, 20, .inl x)), (ya, .inl (cI, 20, .inl y))] s.heap := hP
  have hl := lv_entry ([.ref h0]) (n := 1) (Nat.le_of_ble_eq_true rfl)
  rw [lg_entry_eq]
  generalize (lg_sl ([.ref h0]) ++ List.replicate (1 - (lg_sl ([.ref h0])).length) Slot.unset).toArray = ls at hl ⊢
  have hl : lv_has ls 1 [(0, .ref h0)] := hl
  refine lv_aload_n hx hb dX2_dropAll_0 rfl (lv_at hl 0 rfl) ?_
  refine lv_iconst (v := nI 0) hx hb dX2_dropAll_1 (by decide) ?_
  refine va_put (D := (dC, dI)) (ci := 2) (v := .int (nI 0)) (ty := .int) (C := RX2) (T := TX2) (N := 3) hx hb hts (by decide +kernel) tyX2 tyX2_ok nmX2 hown hK hP hD hS 0 rfl rfl 2 (by decide) (hts (.fieldLink RX2 18 "CircleCells$Sites" "size" "I") (by decide +kernel)) (fun _ h9 => h9) rfl (by decide +kernel) rfl rfl (Nat.le_of_ble_eq_true rfl) dX2_dropAll_2 (fun H locs hP hD hS => ?_)
  have hP : va_P (dC, dI) vwCl [(h0, .inr (2, [.ref xa, .ref ya, .int (nI 0)])), (xa, .inl (cI, 20, .inl x)), (ya, .inl (cI, 20, .inl y))] H := hP
  have hD : va_D A [(h0, .inr (2, [.ref xa, .ref ya, .int (nI 0)])), (xa, .inl (cI, 20, .inl x)), (ya, .inl (cI, 20, .inl y))] := hD
  exact W.vret hx hb hr (q_retm hP hS) hS.2.2 dX2_dropAll_5
set_option maxHeartbeats 4000000 in
set_option maxRecDepth 100000 in
theorem c_X0_layThrough (l : Launch) (dC : Nat → ClassId) (dI : Nat → Nat → Nat) (g0 s0 xa ya : Nat) (cI : ClassId) (x y : Nat → Int32) (fx fy : Int32) (ax ay sp : Int64) (n : Int32) (a b d : Nat) (la : a < 20) (lb : b < 20) (ld : d < 20) (R : Int32 × Int32 × Int64 × Int64 × Int64) (hR : j_lay x y a b d = R) : Met l yX0_layThrough wsX0_layThrough ({ frames := 0, cells := 0, slots := 0, locals := 0 }) (q_Pm (dC, dI) [.ref g0, .ref s0, .int (nI a), .int (nI b), .int (nI d)] [(g0, .inr (0, [.int fx, .int fy, .long ax, .long ay, .long sp])), (s0, .inr (2, [.ref xa, .ref ya, .int n])), (xa, .inl (cI, 20, .inl x)), (ya, .inl (cI, 20, .inl y))] [(cI, .int)]) (q_Qm (dC, dI) (q_in [(g0, .inr (0, [.int fx, .int fy, .long ax, .long ay, .long sp])), (s0, .inr (2, [.ref xa, .ref ya, .int n])), (xa, .inl (cI, 20, .inl x)), (ya, .inl (cI, 20, .inl y))]) none [(g0, .inr (0, [.int R.1, .int R.2.1, .long R.2.2.1, .long R.2.2.2.1, .long R.2.2.2.2])), (s0, .inr (2, [.ref xa, .ref ya, .int n])), (xa, .inl (cI, 20, .inl x)), (ya, .inl (cI, 20, .inl y))]) 0 0 (q_in [(g0, .inr (0, [.int fx, .int fy, .long ax, .long ay, .long sp])), (s0, .inr (2, [.ref xa, .ref ya, .int n])), (xa, .inl (cI, 20, .inl x)), (ya, .inl (cI, 20, .inl y))]) := by
  refine Met.ofW (cc := cX0_layThrough) (maxL := 17) (ret := none) (by decide) rfl ?_
  intro p e s m args below meth c s₁ B hml hv
  obtain ⟨rfl, hP, hK, hD0⟩ := hv
  have hx := B.exec
  have hb := B.bytes
  have hr := B.returns
  have hts := atoms_spec (ws := wsX0_layThrough) B.pre
  have hown : s.vm.findClass RX0 = some m.cls := findClass_of_methodNamed B.named
  have hlocks := B.notSynchronized
  have hD := q_inD hD0
  generalize hAe : q_in [(g0, .inr (0, [.int fx, .int fy, .long ax, .long ay, .long sp])), (s0, .inr (2, [.ref xa, .ref ya, .int n])), (xa, .inl (cI, 20, .inl x)), (ya, .inl (cI, 20, .inl y))] = A at hD ⊢
  have hS : va_S A s.heap s.heap [] := va_S.rf
  have hP : va_P (dC, dI) vwCl [(g0, .inr (0, [.int fx, .int fy, .long ax, .long ay, .long sp])), (s0, .inr (2, [.ref xa, .ref ya, .int n])), (xa, .inl (cI, 20, .inl x)), (ya, .inl (cI, 20, .inl y))] s.heap := hP
  have hl := lv_entry ([.ref g0, .ref s0, .int (nI a), .int (nI b), .int (nI d)]) (n := 17) (Nat.le_of_ble_eq_true rfl)
  rw [lg_entry_eq]
  generalize (lg_sl ([.ref g0, .ref s0, .int (nI a), .int (nI b), .int (nI d)]) ++ List.replicate (17 - (lg_sl ([.ref g0, .ref s0, .int (nI a), .int (nI b), .int (nI d)])).length) Slot.unset).toArray = ls at hl ⊢
  have hl : lv_has ls 17 [(0, .ref g0), (1, .ref s0), (2, .int (nI a)), (3, .int (nI b)), (4, .int (nI d))] := hl
  subst hR
  refine lv_aload_n hx hb dX0_layThrough_0 rfl (lv_at hl 0 rfl) ?_
  refine lv_aload_n hx hb dX0_layThrough_1 rfl (lv_at hl 1 rfl) ?_
  refine va_get (D := (dC, dI)) (ci := 2) (v := .ref xa) (C := RX2) (T := TX2) (N := 3) hx hb hts (by decide +kernel) hown hK hP 1 rfl rfl 0 (by decide) (hts (.fieldLink RX0 7 "CircleCells$Sites" "x" "[I") (by decide +kernel)) (fun _ h9 => h9) rfl dX0_layThrough_2 ?_
  refine lv_iload_n hx hb dX0_layThrough_5 rfl (lv_at hl 2 rfl) ?_
  refine q_iald hx hb hK hP 2 0 rfl rfl (a) rfl (by omega) (by decide) dX0_layThrough_6 ?_
  refine va_put (D := (dC, dI)) (ci := 0) (v := .int (x a)) (ty := .int) (C := RX0) (T := TX0) (N := 5) hx hb hts (by decide +kernel) tyX0 tyX0_ok nmX0 hown hK hP hD hS 0 rfl rfl 0 (by decide) (hts (.fieldLink RX0 13 "CircleCells$Circle" "fromX" "I") (by decide +kernel)) (fun _ h9 => h9) rfl (by decide +kernel) rfl rfl (Nat.le_of_ble_eq_true rfl) dX0_layThrough_7 (fun H locs hP hD hS => ?_)
  have hP : va_P (dC, dI) vwCl [(g0, .inr (0, [.int (x a), .int fy, .long ax, .long ay, .long sp])), (s0, .inr (2, [.ref xa, .ref ya, .int n])), (xa, .inl (cI, 20, .inl x)), (ya, .inl (cI, 20, .inl y))] H := hP
  have hD : va_D A [(g0, .inr (0, [.int (x a), .int fy, .long ax, .long ay, .long sp])), (s0, .inr (2, [.ref xa, .ref ya, .int n])), (xa, .inl (cI, 20, .inl x)), (ya, .inl (cI, 20, .inl y))] := hD
  refine lv_aload_n hx hb dX0_layThrough_10 rfl (lv_at hl 0 rfl) ?_
  refine lv_aload_n hx hb dX0_layThrough_11 rfl (lv_at hl 1 rfl) ?_
  refine va_get (D := (dC, dI)) (ci := 2) (v := .ref ya) (C := RX2) (T := TX2) (N := 3) hx hb hts (by decide +kernel) hown hK hP 1 rfl rfl 1 (by decide) (hts (.fieldLink RX0 19 "CircleCells$Sites" "y" "[I") (by decide +kernel)) (fun _ h9 => h9) rfl dX0_layThrough_12 ?_
  refine lv_iload_n hx hb dX0_layThrough_15 rfl (lv_at hl 2 rfl) ?_
  refine q_iald hx hb hK hP 3 0 rfl rfl (a) rfl (by omega) (by decide) dX0_layThrough_16 ?_
  refine va_put (D := (dC, dI)) (ci := 0) (v := .int (y a)) (ty := .int) (C := RX0) (T := TX0) (N := 5) hx hb hts (by decide +kernel) tyX0 tyX0_ok nmX0 hown hK hP hD hS 0 rfl rfl 1 (by decide) (hts (.fieldLink RX0 22 "CircleCells$Circle" "fromY" "I") (by decide +kernel)) (fun _ h9 => h9) rfl (by decide +kernel) rfl rfl (Nat.le_of_ble_eq_true rfl) dX0_layThrough_17 (fun H locs hP hD hS => ?_)
  have hP : va_P (dC, dI) vwCl [(g0, .inr (0, [.int (x a), .int (y a), .long ax, .long ay, .long sp])), (s0, .inr (2, [.ref xa, .ref ya, .int n])), (xa, .inl (cI, 20, .inl x)), (ya, .inl (cI, 20, .inl y))] H := hP
  have hD : va_D A [(g0, .inr (0, [.int (x a), .int (y a), .long ax, .long ay, .long sp])), (s0, .inr (2, [.ref xa, .ref ya, .int n])), (xa, .inl (cI, 20, .inl x)), (ya, .inl (cI, 20, .inl y))] := hD
  refine lv_aload_n hx hb dX0_layThrough_20 rfl (lv_at hl 1 rfl) ?_
  refine va_get (D := (dC, dI)) (ci := 2) (v := .ref xa) (C := RX2) (T := TX2) (N := 3) hx hb hts (by decide +kernel) hown hK hP 1 rfl rfl 0 (by decide) (hts (.fieldLink RX0 7 "CircleCells$Sites" "x" "[I") (by decide +kernel)) (fun _ h9 => h9) rfl dX0_layThrough_21 ?_
  refine lv_iload_n hx hb dX0_layThrough_24 rfl (lv_at hl 3 rfl) ?_
  refine q_iald hx hb hK hP 2 0 rfl rfl (b) rfl (by omega) (by decide) dX0_layThrough_25 ?_
  refine lv_aload_n hx hb dX0_layThrough_26 rfl (lv_at hl 0 rfl) ?_
  refine va_get (D := (dC, dI)) (ci := 0) (v := .int (x a)) (C := RX0) (T := TX0) (N := 5) hx hb hts (by decide +kernel) hown hK hP 0 rfl rfl 0 (by decide) (hts (.fieldLink RX0 13 "CircleCells$Circle" "fromX" "I") (by decide +kernel)) (fun _ h9 => h9) rfl dX0_layThrough_27 ?_
  refine lv_isub hx hb dX0_layThrough_30 ?_
  refine lv_i2l (v := ((x b) - (x a)).toInt64) hx hb dX0_layThrough_31 rfl ?_
  refine lv_lstore (lv' := [(5, .long (((x b) - (x a)).toInt64)), (0, .ref g0), (1, .ref s0), (2, .int (nI a)), (3, .int (nI b)), (4, .int (nI d))]) hx hb dX0_layThrough_32 hl (by decide) rfl (fun ls hl => ?_)
  refine lv_aload_n hx hb dX0_layThrough_34 rfl (lv_at hl 2 rfl) ?_
  refine va_get (D := (dC, dI)) (ci := 2) (v := .ref ya) (C := RX2) (T := TX2) (N := 3) hx hb hts (by decide +kernel) hown hK hP 1 rfl rfl 1 (by decide) (hts (.fieldLink RX0 19 "CircleCells$Sites" "y" "[I") (by decide +kernel)) (fun _ h9 => h9) rfl dX0_layThrough_35 ?_
  refine lv_iload_n hx hb dX0_layThrough_38 rfl (lv_at hl 4 rfl) ?_
  refine q_iald hx hb hK hP 3 0 rfl rfl (b) rfl (by omega) (by decide) dX0_layThrough_39 ?_
  refine lv_aload_n hx hb dX0_layThrough_40 rfl (lv_at hl 1 rfl) ?_
  refine va_get (D := (dC, dI)) (ci := 0) (v := .int (y a)) (C := RX0) (T := TX0) (N := 5) hx hb hts (by decide +kernel) hown hK hP 0 rfl rfl 1 (by decide) (hts (.fieldLink RX0 22 "CircleCells$Circle" "fromY" "I") (by decide +kernel)) (fun _ h9 => h9) rfl dX0_layThrough_41 ?_
  refine lv_isub hx hb dX0_layThrough_44 ?_
  refine lv_i2l (v := ((y b) - (y a)).toInt64) hx hb dX0_layThrough_45 rfl ?_
  refine lv_lstore (lv' := [(7, .long (((y b) - (y a)).toInt64)), (5, .long (((x b) - (x a)).toInt64)), (0, .ref g0), (1, .ref s0), (2, .int (nI a)), (3, .int (nI b)), (4, .int (nI d))]) hx hb dX0_layThrough_46 hl (by decide) rfl (fun ls hl => ?_)
  refine lv_aload_n hx hb dX0_layThrough_48 rfl (lv_at hl 3 rfl) ?_
  refine va_get (D := (dC, dI)) (ci := 2) (v := .ref xa) (C := RX2) (T := TX2) (N := 3) hx hb hts (by decide +kernel) hown hK hP 1 rfl rfl 0 (by decide) (hts (.fieldLink RX0 7 "CircleCells$Sites" "x" "[I") (by decide +kernel)) (fun _ h9 => h9) rfl dX0_layThrough_49 ?_
  refine lv_iload hx hb dX0_layThrough_52 (lv_at hl 6 rfl) ?_
  refine q_iald hx hb hK hP 2 0 rfl rfl (d) rfl (by omega) (by decide) dX0_layThrough_54 ?_
  refine lv_aload_n hx hb dX0_layThrough_55 rfl (lv_at hl 2 rfl) ?_
  refine va_get (D := (dC, dI)) (ci := 0) (v := .int (x a)) (C := RX0) (T := TX0) (N := 5) hx hb hts (by decide +kernel) hown hK hP 0 rfl rfl 0 (by decide) (hts (.fieldLink RX0 13 "CircleCells$Circle" "fromX" "I") (by decide +kernel)) (fun _ h9 => h9) rfl dX0_layThrough_56 ?_
  refine lv_isub hx hb dX0_layThrough_59 ?_
  refine lv_i2l (v := ((x d) - (x a)).toInt64) hx hb dX0_layThrough_60 rfl ?_
  refine lv_lstore (lv' := [(9, .long (((x d) - (x a)).toInt64)), (7, .long (((y b) - (y a)).toInt64)), (5, .long (((x b) - (x a)).toInt64)), (0, .ref g0), (1, .ref s0), (2, .int (nI a)), (3, .int (nI b)), (4, .int (nI d))]) hx hb dX0_layThrough_61 hl (by decide) rfl (fun ls hl => ?_)
  refine lv_aload_n hx hb dX0_layThrough_63 rfl (lv_at hl 4 rfl) ?_
  refine va_get (D := (dC, dI)) (ci := 2) (v := .ref ya) (C := RX2) (T := TX2) (N := 3) hx hb hts (by decide +kernel) hown hK hP 1 rfl rfl 1 (by decide) (hts (.fieldLink RX0 19 "CircleCells$Sites" "y" "[I") (by decide +kernel)) (fun _ h9 => h9) rfl dX0_layThrough_64 ?_
  refine lv_iload hx hb dX0_layThrough_67 (lv_at hl 7 rfl) ?_
  refine q_iald hx hb hK hP 3 0 rfl rfl (d) rfl (by omega) (by decide) dX0_layThrough_69 ?_
  refine lv_aload_n hx hb dX0_layThrough_70 rfl (lv_at hl 3 rfl) ?_
  refine va_get (D := (dC, dI)) (ci := 0) (v := .int (y a)) (C := RX0) (T := TX0) (N := 5) hx hb hts (by decide +kernel) hown hK hP 0 rfl rfl 1 (by decide) (hts (.fieldLink RX0 22 "CircleCells$Circle" "fromY" "I") (by decide +kernel)) (fun _ h9 => h9) rfl dX0_layThrough_71 ?_
  refine lv_isub hx hb dX0_layThrough_74 ?_
  refine lv_i2l (v := ((y d) - (y a)).toInt64) hx hb dX0_layThrough_75 rfl ?_
  refine lv_lstore (lv' := [(11, .long (((y d) - (y a)).toInt64)), (9, .long (((x d) - (x a)).toInt64)), (7, .long (((y b) - (y a)).toInt64)), (5, .long (((x b) - (x a)).toInt64)), (0, .ref g0), (1, .ref s0), (2, .int (nI a)), (3, .int (nI b)), (4, .int (nI d))]) hx hb dX0_layThrough_76 hl (by decide) rfl (fun ls hl => ?_)
  refine lv_lload hx hb dX0_layThrough_78 (lv_at hl 3 rfl) ?_
  refine lv_lload hx hb dX0_layThrough_80 (lv_at hl 3 rfl) ?_
  refine lv_lmul hx hb dX0_layThrough_82 ?_
  refine lv_lload hx hb dX0_layThrough_83 (lv_at hl 2 rfl) ?_
  refine lv_lload hx hb dX0_layThrough_85 (lv_at hl 2 rfl) ?_
  refine lv_lmul hx hb dX0_layThrough_87 ?_
  refine lv_ladd hx hb dX0_layThrough_88 ?_
  refine lv_lstore (lv' := [(13, .long (((((x b) - (x a)).toInt64) * (((x b) - (x a)).toInt64)) + ((((y b) - (y a)).toInt64) * (((y b) - (y a)).toInt64)))), (11, .long (((y d) - (y a)).toInt64)), (9, .long (((x d) - (x a)).toInt64)), (7, .long (((y b) - (y a)).toInt64)), (5, .long (((x b) - (x a)).toInt64)), (0, .ref g0), (1, .ref s0), (2, .int (nI a)), (3, .int (nI b)), (4, .int (nI d))]) hx hb dX0_layThrough_89 hl (by decide) rfl (fun ls hl => ?_)
  refine lv_lload hx hb dX0_layThrough_91 (lv_at hl 2 rfl) ?_
  refine lv_lload hx hb dX0_layThrough_93 (lv_at hl 2 rfl) ?_
  refine lv_lmul hx hb dX0_layThrough_95 ?_
  refine lv_lload hx hb dX0_layThrough_96 (lv_at hl 1 rfl) ?_
  refine lv_lload hx hb dX0_layThrough_98 (lv_at hl 1 rfl) ?_
  refine lv_lmul hx hb dX0_layThrough_100 ?_
  refine lv_ladd hx hb dX0_layThrough_101 ?_
  refine lv_lstore (lv' := [(15, .long (((((x d) - (x a)).toInt64) * (((x d) - (x a)).toInt64)) + ((((y d) - (y a)).toInt64) * (((y d) - (y a)).toInt64)))), (13, .long (((((x b) - (x a)).toInt64) * (((x b) - (x a)).toInt64)) + ((((y b) - (y a)).toInt64) * (((y b) - (y a)).toInt64)))), (11, .long (((y d) - (y a)).toInt64)), (9, .long (((x d) - (x a)).toInt64)), (7, .long (((y b) - (y a)).toInt64)), (5, .long (((x b) - (x a)).toInt64)), (0, .ref g0), (1, .ref s0), (2, .int (nI a)), (3, .int (nI b)), (4, .int (nI d))]) hx hb dX0_layThrough_102 hl (by decide) rfl (fun ls hl => ?_)
  refine lv_aload_n hx hb dX0_layThrough_104 rfl (lv_at hl 6 rfl) ?_
  refine lv_lload hx hb dX0_layThrough_105 (lv_at hl 2 rfl) ?_
  refine lv_lload hx hb dX0_layThrough_107 (lv_at hl 1 rfl) ?_
  refine lv_lmul hx hb dX0_layThrough_109 ?_
  refine lv_lload hx hb dX0_layThrough_110 (lv_at hl 4 rfl) ?_
  refine lv_lload hx hb dX0_layThrough_112 (lv_at hl 0 rfl) ?_
  refine lv_lmul hx hb dX0_layThrough_114 ?_
  refine lv_lsub hx hb dX0_layThrough_115 ?_
  refine va_put (D := (dC, dI)) (ci := 0) (v := .long (((((y d) - (y a)).toInt64) * (((((x b) - (x a)).toInt64) * (((x b) - (x a)).toInt64)) + ((((y b) - (y a)).toInt64) * (((y b) - (y a)).toInt64)))) - ((((y b) - (y a)).toInt64) * (((((x d) - (x a)).toInt64) * (((x d) - (x a)).toInt64)) + ((((y d) - (y a)).toInt64) * (((y d) - (y a)).toInt64)))))) (ty := .long) (C := RX0) (T := TX0) (N := 5) hx hb hts (by decide +kernel) tyX0 tyX0_ok nmX0 hown hK hP hD hS 0 rfl rfl 2 (by decide) (hts (.fieldLink RX0 25 "CircleCells$Circle" "aimX" "J") (by decide +kernel)) (fun _ h9 => h9) rfl (by decide +kernel) rfl rfl (Nat.le_of_ble_eq_true rfl) dX0_layThrough_116 (fun H locs hP hD hS => ?_)
  have hP : va_P (dC, dI) vwCl [(g0, .inr (0, [.int (x a), .int (y a), .long (((((y d) - (y a)).toInt64) * (((((x b) - (x a)).toInt64) * (((x b) - (x a)).toInt64)) + ((((y b) - (y a)).toInt64) * (((y b) - (y a)).toInt64)))) - ((((y b) - (y a)).toInt64) * (((((x d) - (x a)).toInt64) * (((x d) - (x a)).toInt64)) + ((((y d) - (y a)).toInt64) * (((y d) - (y a)).toInt64))))), .long ay, .long sp])), (s0, .inr (2, [.ref xa, .ref ya, .int n])), (xa, .inl (cI, 20, .inl x)), (ya, .inl (cI, 20, .inl y))] H := hP
  have hD : va_D A [(g0, .inr (0, [.int (x a), .int (y a), .long (((((y d) - (y a)).toInt64) * (((((x b) - (x a)).toInt64) * (((x b) - (x a)).toInt64)) + ((((y b) - (y a)).toInt64) * (((y b) - (y a)).toInt64)))) - ((((y b) - (y a)).toInt64) * (((((x d) - (x a)).toInt64) * (((x d) - (x a)).toInt64)) + ((((y d) - (y a)).toInt64) * (((y d) - (y a)).toInt64))))), .long ay, .long sp])), (s0, .inr (2, [.ref xa, .ref ya, .int n])), (xa, .inl (cI, 20, .inl x)), (ya, .inl (cI, 20, .inl y))] := hD
  refine lv_aload_n hx hb dX0_layThrough_119 rfl (lv_at hl 6 rfl) ?_
  refine lv_lload hx hb dX0_layThrough_120 (lv_at hl 5 rfl) ?_
  refine lv_lload hx hb dX0_layThrough_122 (lv_at hl 0 rfl) ?_
  refine lv_lmul hx hb dX0_layThrough_124 ?_
  refine lv_lload hx hb dX0_layThrough_125 (lv_at hl 3 rfl) ?_
  refine lv_lload hx hb dX0_layThrough_127 (lv_at hl 1 rfl) ?_
  refine lv_lmul hx hb dX0_layThrough_129 ?_
  refine lv_lsub hx hb dX0_layThrough_130 ?_
  refine va_put (D := (dC, dI)) (ci := 0) (v := .long (((((x b) - (x a)).toInt64) * (((((x d) - (x a)).toInt64) * (((x d) - (x a)).toInt64)) + ((((y d) - (y a)).toInt64) * (((y d) - (y a)).toInt64)))) - ((((x d) - (x a)).toInt64) * (((((x b) - (x a)).toInt64) * (((x b) - (x a)).toInt64)) + ((((y b) - (y a)).toInt64) * (((y b) - (y a)).toInt64)))))) (ty := .long) (C := RX0) (T := TX0) (N := 5) hx hb hts (by decide +kernel) tyX0 tyX0_ok nmX0 hown hK hP hD hS 0 rfl rfl 3 (by decide) (hts (.fieldLink RX0 29 "CircleCells$Circle" "aimY" "J") (by decide +kernel)) (fun _ h9 => h9) rfl (by decide +kernel) rfl rfl (Nat.le_of_ble_eq_true rfl) dX0_layThrough_131 (fun H locs hP hD hS => ?_)
  have hP : va_P (dC, dI) vwCl [(g0, .inr (0, [.int (x a), .int (y a), .long (((((y d) - (y a)).toInt64) * (((((x b) - (x a)).toInt64) * (((x b) - (x a)).toInt64)) + ((((y b) - (y a)).toInt64) * (((y b) - (y a)).toInt64)))) - ((((y b) - (y a)).toInt64) * (((((x d) - (x a)).toInt64) * (((x d) - (x a)).toInt64)) + ((((y d) - (y a)).toInt64) * (((y d) - (y a)).toInt64))))), .long (((((x b) - (x a)).toInt64) * (((((x d) - (x a)).toInt64) * (((x d) - (x a)).toInt64)) + ((((y d) - (y a)).toInt64) * (((y d) - (y a)).toInt64)))) - ((((x d) - (x a)).toInt64) * (((((x b) - (x a)).toInt64) * (((x b) - (x a)).toInt64)) + ((((y b) - (y a)).toInt64) * (((y b) - (y a)).toInt64))))), .long sp])), (s0, .inr (2, [.ref xa, .ref ya, .int n])), (xa, .inl (cI, 20, .inl x)), (ya, .inl (cI, 20, .inl y))] H := hP
  have hD : va_D A [(g0, .inr (0, [.int (x a), .int (y a), .long (((((y d) - (y a)).toInt64) * (((((x b) - (x a)).toInt64) * (((x b) - (x a)).toInt64)) + ((((y b) - (y a)).toInt64) * (((y b) - (y a)).toInt64)))) - ((((y b) - (y a)).toInt64) * (((((x d) - (x a)).toInt64) * (((x d) - (x a)).toInt64)) + ((((y d) - (y a)).toInt64) * (((y d) - (y a)).toInt64))))), .long (((((x b) - (x a)).toInt64) * (((((x d) - (x a)).toInt64) * (((x d) - (x a)).toInt64)) + ((((y d) - (y a)).toInt64) * (((y d) - (y a)).toInt64)))) - ((((x d) - (x a)).toInt64) * (((((x b) - (x a)).toInt64) * (((x b) - (x a)).toInt64)) + ((((y b) - (y a)).toInt64) * (((y b) - (y a)).toInt64))))), .long sp])), (s0, .inr (2, [.ref xa, .ref ya, .int n])), (xa, .inl (cI, 20, .inl x)), (ya, .inl (cI, 20, .inl y))] := hD
  refine lv_aload_n hx hb dX0_layThrough_134 rfl (lv_at hl 6 rfl) ?_
  refine lv_ldc2 (v := 2) hx hb hown (hts (.constantLong RX0 32 (2)) (by decide +kernel)) dX0_layThrough_135 ?_
  refine lv_lload hx hb dX0_layThrough_138 (lv_at hl 5 rfl) ?_
  refine lv_lload hx hb dX0_layThrough_140 (lv_at hl 2 rfl) ?_
  refine lv_lmul hx hb dX0_layThrough_142 ?_
  refine lv_lload hx hb dX0_layThrough_143 (lv_at hl 4 rfl) ?_
  refine lv_lload hx hb dX0_layThrough_145 (lv_at hl 3 rfl) ?_
  refine lv_lmul hx hb dX0_layThrough_147 ?_
  refine lv_lsub hx hb dX0_layThrough_148 ?_
  refine lv_lmul hx hb dX0_layThrough_149 ?_
  refine va_put (D := (dC, dI)) (ci := 0) (v := .long (2 * (((((x b) - (x a)).toInt64) * (((y d) - (y a)).toInt64)) - ((((y b) - (y a)).toInt64) * (((x d) - (x a)).toInt64))))) (ty := .long) (C := RX0) (T := TX0) (N := 5) hx hb hts (by decide +kernel) tyX0 tyX0_ok nmX0 hown hK hP hD hS 0 rfl rfl 4 (by decide) (hts (.fieldLink RX0 34 "CircleCells$Circle" "span" "J") (by decide +kernel)) (fun _ h9 => h9) rfl (by decide +kernel) rfl rfl (Nat.le_of_ble_eq_true rfl) dX0_layThrough_150 (fun H locs hP hD hS => ?_)
  have hP : va_P (dC, dI) vwCl [(g0, .inr (0, [.int (x a), .int (y a), .long (((((y d) - (y a)).toInt64) * (((((x b) - (x a)).toInt64) * (((x b) - (x a)).toInt64)) + ((((y b) - (y a)).toInt64) * (((y b) - (y a)).toInt64)))) - ((((y b) - (y a)).toInt64) * (((((x d) - (x a)).toInt64) * (((x d) - (x a)).toInt64)) + ((((y d) - (y a)).toInt64) * (((y d) - (y a)).toInt64))))), .long (((((x b) - (x a)).toInt64) * (((((x d) - (x a)).toInt64) * (((x d) - (x a)).toInt64)) + ((((y d) - (y a)).toInt64) * (((y d) - (y a)).toInt64)))) - ((((x d) - (x a)).toInt64) * (((((x b) - (x a)).toInt64) * (((x b) - (x a)).toInt64)) + ((((y b) - (y a)).toInt64) * (((y b) - (y a)).toInt64))))), .long (2 * (((((x b) - (x a)).toInt64) * (((y d) - (y a)).toInt64)) - ((((y b) - (y a)).toInt64) * (((x d) - (x a)).toInt64))))])), (s0, .inr (2, [.ref xa, .ref ya, .int n])), (xa, .inl (cI, 20, .inl x)), (ya, .inl (cI, 20, .inl y))] H := hP
  have hD : va_D A [(g0, .inr (0, [.int (x a), .int (y a), .long (((((y d) - (y a)).toInt64) * (((((x b) - (x a)).toInt64) * (((x b) - (x a)).toInt64)) + ((((y b) - (y a)).toInt64) * (((y b) - (y a)).toInt64)))) - ((((y b) - (y a)).toInt64) * (((((x d) - (x a)).toInt64) * (((x d) - (x a)).toInt64)) + ((((y d) - (y a)).toInt64) * (((y d) - (y a)).toInt64))))), .long (((((x b) - (x a)).toInt64) * (((((x d) - (x a)).toInt64) * (((x d) - (x a)).toInt64)) + ((((y d) - (y a)).toInt64) * (((y d) - (y a)).toInt64)))) - ((((x d) - (x a)).toInt64) * (((((x b) - (x a)).toInt64) * (((x b) - (x a)).toInt64)) + ((((y b) - (y a)).toInt64) * (((y b) - (y a)).toInt64))))), .long (2 * (((((x b) - (x a)).toInt64) * (((y d) - (y a)).toInt64)) - ((((y b) - (y a)).toInt64) * (((x d) - (x a)).toInt64))))])), (s0, .inr (2, [.ref xa, .ref ya, .int n])), (xa, .inl (cI, 20, .inl x)), (ya, .inl (cI, 20, .inl y))] := hD
  exact W.vret hx hb hr (q_retm hP hS) hS.2.2 dX0_layThrough_153
set_option maxHeartbeats 4000000 in
set_option maxRecDepth 100000 in
theorem c_X1_layLeftOf (l : Launch) (dC : Nat → ClassId) (dI : Nat → Nat → Nat) (m0 s0 g0 ra sa oa ma : Nat) (cI : ClassId) (xa ya : Nat) (cc rc : Int32) (x y : Nat → Int32) (fx fy : Int32) (ax ay sp : Int64) (n a b : Nat) (ln : n ≤ 20) (la : a < n) (lb : b < n) (R : Bool × Int32 × Int32 × Int64 × Int64 × Int64) (hR : j_left x y n a b false (fx, fy, ax, ay, sp) 0 = R) : Met l yX1_layLeftOf wsX1_layLeftOf ({ frames := 2, cells := 0, slots := 0, locals := 47 }) (q_Pm (dC, dI) [.ref m0, .int (nI a), .int (nI b)] [(m0, .inr (1, [.ref s0, .ref g0, .ref ra, .ref sa, .ref oa, .int cc, .ref ma, .int rc])), (g0, .inr (0, [.int fx, .int fy, .long ax, .long ay, .long sp])), (s0, .inr (2, [.ref xa, .ref ya, .int (nI n)])), (xa, .inl (cI, 20, .inl x)), (ya, .inl (cI, 20, .inl y))] [(cI, .int)]) (q_Qm (dC, dI) (q_in [(m0, .inr (1, [.ref s0, .ref g0, .ref ra, .ref sa, .ref oa, .int cc, .ref ma, .int rc])), (g0, .inr (0, [.int fx, .int fy, .long ax, .long ay, .long sp])), (s0, .inr (2, [.ref xa, .ref ya, .int (nI n)])), (xa, .inl (cI, 20, .inl x)), (ya, .inl (cI, 20, .inl y))]) (some (.int (bI R.1))) [(m0, .inr (1, [.ref s0, .ref g0, .ref ra, .ref sa, .ref oa, .int cc, .ref ma, .int rc])), (g0, .inr (0, [.int R.2.1, .int R.2.2.1, .long R.2.2.2.1, .long R.2.2.2.2.1, .long R.2.2.2.2.2])), (s0, .inr (2, [.ref xa, .ref ya, .int (nI n)])), (xa, .inl (cI, 20, .inl x)), (ya, .inl (cI, 20, .inl y))]) 0 0 (q_in [(m0, .inr (1, [.ref s0, .ref g0, .ref ra, .ref sa, .ref oa, .int cc, .ref ma, .int rc])), (g0, .inr (0, [.int fx, .int fy, .long ax, .long ay, .long sp])), (s0, .inr (2, [.ref xa, .ref ya, .int (nI n)])), (xa, .inl (cI, 20, .inl x)), (ya, .inl (cI, 20, .inl y))]) := by
  refine Met.ofW (cc := cX1_layLeftOf) (maxL := 5) (ret := (some .boolean)) (by decide) rfl ?_
  intro p e s m args below meth c s₁ B hml hv
  obtain ⟨rfl, hP, hK, hD0⟩ := hv
  have hx := B.exec
  have hb := B.bytes
  have hr := B.returns
  have hts := atoms_spec (ws := wsX1_layLeftOf) B.pre
  have hown : s.vm.findClass RX1 = some m.cls := findClass_of_methodNamed B.named
  have hlocks := B.notSynchronized
  have hD := q_inD hD0
  generalize hAe : q_in [(m0, .inr (1, [.ref s0, .ref g0, .ref ra, .ref sa, .ref oa, .int cc, .ref ma, .int rc])), (g0, .inr (0, [.int fx, .int fy, .long ax, .long ay, .long sp])), (s0, .inr (2, [.ref xa, .ref ya, .int (nI n)])), (xa, .inl (cI, 20, .inl x)), (ya, .inl (cI, 20, .inl y))] = A at hD ⊢
  have hS : va_S A s.heap s.heap [] := va_S.rf
  have hP : va_P (dC, dI) vwCl [(m0, .inr (1, [.ref s0, .ref g0, .ref ra, .ref sa, .ref oa, .int cc, .ref ma, .int rc])), (g0, .inr (0, [.int fx, .int fy, .long ax, .long ay, .long sp])), (s0, .inr (2, [.ref xa, .ref ya, .int (nI n)])), (xa, .inl (cI, 20, .inl x)), (ya, .inl (cI, 20, .inl y))] s.heap := hP
  have hl := lv_entry ([.ref m0, .int (nI a), .int (nI b)]) (n := 5) (Nat.le_of_ble_eq_true rfl)
  rw [lg_entry_eq]
  generalize (lg_sl ([.ref m0, .int (nI a), .int (nI b)]) ++ List.replicate (5 - (lg_sl ([.ref m0, .int (nI a), .int (nI b)])).length) Slot.unset).toArray = ls at hl ⊢
  have hl : lv_has ls 5 [(0, .ref m0), (1, .int (nI a)), (2, .int (nI b))] := hl
  refine lv_iconst (v := bI false) hx hb dX1_layLeftOf_0 (by decide) ?_
  refine lv_istore_n (lv' := [(3, .int (bI false)), (0, .ref m0), (1, .int (nI a)), (2, .int (nI b))]) hx hb dX1_layLeftOf_1 rfl hl (by decide) rfl (fun ls hl => ?_)
  refine lv_iconst (v := nI 0) hx hb dX1_layLeftOf_2 (by decide) ?_
  refine lv_istore (lv' := [(4, .int (nI 0)), (3, .int (bI false)), (0, .ref m0), (1, .int (nI a)), (2, .int (nI b))]) hx hb dX1_layLeftOf_3 hl (by decide) rfl (fun ls hl => ?_)
  have loop : ∀ (f : Nat) (t : Bool) (K : Int32 × Int32 × Int64 × Int64 × Int64) (k : Nat) (R : Bool × Int32 × Int32 × Int64 × Int64 × Int64) (H : Heap) (locs : List Loc) (ls : Array Slot), (k ≤ n) → (n + 1 ≤ k + f) → j_left x y n a b t K k = R → va_P (dC, dI) vwCl [(m0, .inr (1, [.ref s0, .ref g0, .ref ra, .ref sa, .ref oa, .int cc, .ref ma, .int rc])), (g0, .inr (0, [.int K.1, .int K.2.1, .long K.2.2.1, .long K.2.2.2.1, .long K.2.2.2.2])), (s0, .inr (2, [.ref xa, .ref ya, .int (nI n)])), (xa, .inl (cI, 20, .inl x)), (ya, .inl (cI, 20, .inl y))] H → va_D A [(m0, .inr (1, [.ref s0, .ref g0, .ref ra, .ref sa, .ref oa, .int cc, .ref ma, .int rc])), (g0, .inr (0, [.int K.1, .int K.2.1, .long K.2.2.1, .long K.2.2.2.1, .long K.2.2.2.2])), (s0, .inr (2, [.ref xa, .ref ya, .int (nI n)])), (xa, .inl (cI, 20, .inl x)), (ya, .inl (cI, 20, .inl y))] → va_S A s.heap H locs → lv_has ls 5 [(0, .ref m0), (1, .int (nI a)), (2, .int (nI b)), (3, .int (bI t)), (4, .int (nI k))] → W p l e (headSpec wsX1_layLeftOf ({ frames := 2, cells := 0, slots := 0, locals := 47 })).room s m ([.ref m0, .int (nI a), .int (nI b)] : List Value).toArray below meth c H locs 0 0 (MQ below (q_Qm (dC, dI) A (some (.int (bI R.1))) [(m0, .inr (1, [.ref s0, .ref g0, .ref ra, .ref sa, .ref oa, .int cc, .ref ma, .int rc])), (g0, .inr (0, [.int R.2.1, .int R.2.2.1, .long R.2.2.2.1, .long R.2.2.2.2.1, .long R.2.2.2.2.2])), (s0, .inr (2, [.ref xa, .ref ya, .int (nI n)])), (xa, .inl (cI, 20, .inl x)), (ya, .inl (cI, 20, .inl y))]) ([.ref m0, .int (nI a), .int (nI b)] : List Value).toArray s 0 0 A) (F0 m 5 ls []) := by
    intro f
    induction f with
    | zero =>
      intro t K k R H locs ls h1 h2
      omega
    | succ f ih_loop =>
      intro t K k R H locs ls h1 h2 hF hP hD hS hl
      refine lv_iload hx hb dX1_layLeftOf_5 (lv_at hl 4 rfl) ?_
      refine lv_aload_n hx hb dX1_layLeftOf_7 rfl (lv_at hl 0 rfl) ?_
      refine va_get (D := (dC, dI)) (ci := 1) (v := .ref s0) (C := RX1) (T := TX1) (N := 8) hx hb hts (by decide +kernel) hown hK hP 0 rfl rfl 0 (by decide) (hts (.fieldLink RX1 38 "CircleCells$Mosaic" "sites" "LCircleCells$Sites;") (by decide +kernel)) (fun _ h9 => h9) rfl dX1_layLeftOf_8 ?_
      refine va_get (D := (dC, dI)) (ci := 2) (v := .int (nI n)) (C := RX2) (T := TX2) (N := 3) hx hb hts (by decide +kernel) hown hK hP 2 rfl rfl 2 (by decide) (hts (.fieldLink RX1 48 "CircleCells$Sites" "size" "I") (by decide +kernel)) (fun _ h9 => h9) rfl dX1_layLeftOf_11 ?_
      refine q_icmp_ge (tgt := 69) (by omega) (by omega) hx hb dX1_layLeftOf_14 (by decide) (fun c14 => ?_) (fun c14 => ?_)
      · rw [j_left, if_neg (by omega)] at hF
        subst hF
        refine lv_iload_n hx hb dX1_layLeftOf_69 rfl (lv_at hl 3 rfl) ?_
        exact W.zret (v := bI t) hx hb hr (bI_nar _) (q_retm hP hS) hS.2.2 dX1_layLeftOf_70
      · rw [j_left, if_pos c14] at hF
        refine lv_aload_n hx hb dX1_layLeftOf_17 rfl (lv_at hl 0 rfl) ?_
        refine va_get (D := (dC, dI)) (ci := 1) (v := .ref s0) (C := RX1) (T := TX1) (N := 8) hx hb hts (by decide +kernel) hown hK hP 0 rfl rfl 0 (by decide) (hts (.fieldLink RX1 38 "CircleCells$Mosaic" "sites" "LCircleCells$Sites;") (by decide +kernel)) (fun _ h9 => h9) rfl dX1_layLeftOf_18 ?_
        refine lv_iload_n hx hb dX1_layLeftOf_21 rfl (lv_at hl 1 rfl) ?_
        refine lv_iload_n hx hb dX1_layLeftOf_22 rfl (lv_at hl 2 rfl) ?_
        refine lv_iload hx hb dX1_layLeftOf_23 (lv_at hl 4 rfl) ?_
        refine q_cV (As := [.int (nI a), .int (nI b), .int (nI k)]) (rest := []) ⟨hx, hb, hml, hown, hts⟩ (c_X2_turn_ l dC dI s0 xa ya cI x y (nI n) a b k (by omega) (by omega) (by omega)) (cwV 3 hts gX1_layLeftOf_X2_turn_ rfl rfl rfl (by decide +kernel) ⟨Nat.le_of_ble_eq_true rfl, Nat.le_of_ble_eq_true rfl⟩) (q_pV hK hP [2, 3, 4] [0] 2 2 rfl rfl rfl rfl rfl rfl) rfl hl.1 rfl (Nat.le_of_ble_eq_true rfl) ⟨Nat.zero_le _, Nat.zero_le _⟩ dX1_layLeftOf_25 ?_
        refine lv_if_le (tgt := 63) hx hb dX1_layLeftOf_28 (by decide) (fun c28 => ?_) (fun c28 => ?_)
        · rw [if_pos c28] at hF
          refine lv_iinc (v := nI (k + 1)) (lv' := [(4, .int (nI (k + 1))), (0, .ref m0), (1, .int (nI a)), (2, .int (nI b)), (3, .int (bI t))]) hx hb dX1_layLeftOf_63 hl (k := 4) rfl (by rw [show Int32.ofInt 1 = 1 from rfl]; exact nI_1 _) (by decide) rfl (fun ls hl => ?_)
          refine lv_goto (tgt := 5) hx hb dX1_layLeftOf_66 (by decide) ?_
          exact ih_loop t K (k + 1) R H locs ls (by omega) (by omega) hF hP hD hS (lv_sub hl [1, 2, 3, 4, 0] rfl)
        · rw [if_neg c28] at hF
          refine lv_iload_n hx hb dX1_layLeftOf_31 rfl (lv_at hl 3 rfl) ?_
          refine q_ifb_eq (tgt := 46) hx hb dX1_layLeftOf_32 (by decide) (fun c32 => ?_) (fun c32 => ?_)
          · rw [if_pos c32] at hF
            refine lv_aload_n hx hb dX1_layLeftOf_46 rfl (lv_at hl 0 rfl) ?_
            refine va_get (D := (dC, dI)) (ci := 1) (v := .ref g0) (C := RX1) (T := TX1) (N := 8) hx hb hts (by decide +kernel) hown hK hP 0 rfl rfl 1 (by decide) (hts (.fieldLink RX1 12 "CircleCells$Mosaic" "circle" "LCircleCells$Circle;") (by decide +kernel)) (fun _ h9 => h9) rfl dX1_layLeftOf_47 ?_
            refine lv_aload_n hx hb dX1_layLeftOf_50 rfl (lv_at hl 0 rfl) ?_
            refine va_get (D := (dC, dI)) (ci := 1) (v := .ref s0) (C := RX1) (T := TX1) (N := 8) hx hb hts (by decide +kernel) hown hK hP 0 rfl rfl 0 (by decide) (hts (.fieldLink RX1 38 "CircleCells$Mosaic" "sites" "LCircleCells$Sites;") (by decide +kernel)) (fun _ h9 => h9) rfl dX1_layLeftOf_51 ?_
            refine lv_iload_n hx hb dX1_layLeftOf_54 rfl (lv_at hl 1 rfl) ?_
            refine lv_iload_n hx hb dX1_layLeftOf_55 rfl (lv_at hl 2 rfl) ?_
            refine lv_iload hx hb dX1_layLeftOf_56 (lv_at hl 4 rfl) ?_
            obtain ⟨K2, hK2⟩ : ∃ r : Int32 × Int32 × Int64 × Int64 × Int64, j_lay x y a b k = r := ⟨_, rfl⟩
            refine q_mV (wc' := [(g0, .inr (0, [.int K2.1, .int K2.2.1, .long K2.2.2.1, .long K2.2.2.2.1, .long K2.2.2.2.2])), (s0, .inr (2, [.ref xa, .ref ya, .int (nI n)])), (xa, .inl (cI, 20, .inl x)), (ya, .inl (cI, 20, .inl y))]) (wsN := [(m0, .inr (1, [.ref s0, .ref g0, .ref ra, .ref sa, .ref oa, .int cc, .ref ma, .int rc])), (g0, .inr (0, [.int K2.1, .int K2.2.1, .long K2.2.2.1, .long K2.2.2.2.1, .long K2.2.2.2.2])), (s0, .inr (2, [.ref xa, .ref ya, .int (nI n)])), (xa, .inl (cI, 20, .inl x)), (ya, .inl (cI, 20, .inl y))]) (As := [.ref s0, .int (nI a), .int (nI b), .int (nI k)]) (rest := []) ⟨hx, hb, hml, hown, hts⟩ (c_X0_layThrough l dC dI g0 s0 xa ya cI x y K.1 K.2.1 K.2.2.1 K.2.2.2.1 K.2.2.2.2 (nI n) a b k (by omega) (by omega) (by omega) K2 hK2) (cwV 4 hts gX1_layLeftOf_X0_layThrough rfl rfl rfl (by decide +kernel) ⟨Nat.le_of_ble_eq_true rfl, Nat.le_of_ble_eq_true rfl⟩) hK hP hD hS [1, 2, 3, 4] [0] 0 1 rfl rfl rfl rfl rfl rfl rfl rfl rfl hl.1 rfl (Nat.le_of_ble_eq_true rfl) ⟨Nat.zero_le _, Nat.zero_le _⟩ dX1_layLeftOf_58 rfl (fun H locs hP hD hS => ?_)
            refine W.eq (g2 := F0 m 61 ls []) rfl ?_
            rw [hK2] at hF
            refine lv_iconst (v := bI true) hx hb dX1_layLeftOf_61 (by decide) ?_
            refine lv_istore_n (lv' := [(3, .int (bI true)), (0, .ref m0), (1, .int (nI a)), (2, .int (nI b)), (4, .int (nI k))]) hx hb dX1_layLeftOf_62 rfl hl (by decide) rfl (fun ls hl => ?_)
            refine lv_iinc (v := nI (k + 1)) (lv' := [(4, .int (nI (k + 1))), (3, .int (bI true)), (0, .ref m0), (1, .int (nI a)), (2, .int (nI b))]) hx hb dX1_layLeftOf_63 hl (k := 4) rfl (by rw [show Int32.ofInt 1 = 1 from rfl]; exact nI_1 _) (by decide) rfl (fun ls hl => ?_)
            refine lv_goto (tgt := 5) hx hb dX1_layLeftOf_66 (by decide) ?_
            exact ih_loop true K2 (k + 1) R H locs ls (by omega) (by omega) hF hP hD hS (lv_sub hl [2, 3, 4, 1, 0] rfl)
          · rw [if_neg (by rw [c32]; decide)] at hF
            refine lv_aload_n hx hb dX1_layLeftOf_35 rfl (lv_at hl 0 rfl) ?_
            refine lv_iload hx hb dX1_layLeftOf_36 (lv_at hl 4 rfl) ?_
            refine q_cV (As := [.int (nI k)]) (rest := []) ⟨hx, hb, hml, hown, hts⟩ (c_X1_powerOf l dC dI m0 s0 g0 ra sa oa ma cI xa ya (nI n) cc rc x y K.1 K.2.1 K.2.2.1 K.2.2.2.1 K.2.2.2.2 k (by omega)) (cwV 1 hts gX1_layLeftOf_X1_powerOf rfl rfl rfl (by decide +kernel) ⟨Nat.le_of_ble_eq_true rfl, Nat.le_of_ble_eq_true rfl⟩) (q_pV hK hP [0, 1, 2, 3, 4] [0] 1 0 rfl rfl rfl rfl rfl rfl) rfl hl.1 rfl (Nat.le_of_ble_eq_true rfl) ⟨Nat.zero_le _, Nat.zero_le _⟩ dX1_layLeftOf_38 ?_
            refine lv_lconst (v := 0) hx hb dX1_layLeftOf_41 (by decide) ?_
            refine q_lcmp_ge (tgt := 63) hx hb dX1_layLeftOf_42 dX1_layLeftOf_43 (by decide) (fun c43 => ?_) (fun c43 => ?_)
            · rw [if_pos (show 0 ≤ j_powC K (x k) (y k) from c43)] at hF
              refine lv_iinc (v := nI (k + 1)) (lv' := [(4, .int (nI (k + 1))), (0, .ref m0), (1, .int (nI a)), (2, .int (nI b)), (3, .int (bI t))]) hx hb dX1_layLeftOf_63 hl (k := 4) rfl (by rw [show Int32.ofInt 1 = 1 from rfl]; exact nI_1 _) (by decide) rfl (fun ls hl => ?_)
              refine lv_goto (tgt := 5) hx hb dX1_layLeftOf_66 (by decide) ?_
              exact ih_loop t K (k + 1) R H locs ls (by omega) (by omega) hF hP hD hS (lv_sub hl [1, 2, 3, 4, 0] rfl)
            · rw [if_neg (show ¬ 0 ≤ j_powC K (x k) (y k) from c43)] at hF
              refine lv_aload_n hx hb dX1_layLeftOf_46 rfl (lv_at hl 0 rfl) ?_
              refine va_get (D := (dC, dI)) (ci := 1) (v := .ref g0) (C := RX1) (T := TX1) (N := 8) hx hb hts (by decide +kernel) hown hK hP 0 rfl rfl 1 (by decide) (hts (.fieldLink RX1 12 "CircleCells$Mosaic" "circle" "LCircleCells$Circle;") (by decide +kernel)) (fun _ h9 => h9) rfl dX1_layLeftOf_47 ?_
              refine lv_aload_n hx hb dX1_layLeftOf_50 rfl (lv_at hl 0 rfl) ?_
              refine va_get (D := (dC, dI)) (ci := 1) (v := .ref s0) (C := RX1) (T := TX1) (N := 8) hx hb hts (by decide +kernel) hown hK hP 0 rfl rfl 0 (by decide) (hts (.fieldLink RX1 38 "CircleCells$Mosaic" "sites" "LCircleCells$Sites;") (by decide +kernel)) (fun _ h9 => h9) rfl dX1_layLeftOf_51 ?_
              refine lv_iload_n hx hb dX1_layLeftOf_54 rfl (lv_at hl 1 rfl) ?_
              refine lv_iload_n hx hb dX1_layLeftOf_55 rfl (lv_at hl 2 rfl) ?_
              refine lv_iload hx hb dX1_layLeftOf_56 (lv_at hl 4 rfl) ?_
              obtain ⟨K2, hK2⟩ : ∃ r : Int32 × Int32 × Int64 × Int64 × Int64, j_lay x y a b k = r := ⟨_, rfl⟩
              refine q_mV (wc' := [(g0, .inr (0, [.int K2.1, .int K2.2.1, .long K2.2.2.1, .long K2.2.2.2.1, .long K2.2.2.2.2])), (s0, .inr (2, [.ref xa, .ref ya, .int (nI n)])), (xa, .inl (cI, 20, .inl x)), (ya, .inl (cI, 20, .inl y))]) (wsN := [(m0, .inr (1, [.ref s0, .ref g0, .ref ra, .ref sa, .ref oa, .int cc, .ref ma, .int rc])), (g0, .inr (0, [.int K2.1, .int K2.2.1, .long K2.2.2.1, .long K2.2.2.2.1, .long K2.2.2.2.2])), (s0, .inr (2, [.ref xa, .ref ya, .int (nI n)])), (xa, .inl (cI, 20, .inl x)), (ya, .inl (cI, 20, .inl y))]) (As := [.ref s0, .int (nI a), .int (nI b), .int (nI k)]) (rest := []) ⟨hx, hb, hml, hown, hts⟩ (c_X0_layThrough l dC dI g0 s0 xa ya cI x y K.1 K.2.1 K.2.2.1 K.2.2.2.1 K.2.2.2.2 (nI n) a b k (by omega) (by omega) (by omega) K2 hK2) (cwV 4 hts gX1_layLeftOf_X0_layThrough rfl rfl rfl (by decide +kernel) ⟨Nat.le_of_ble_eq_true rfl, Nat.le_of_ble_eq_true rfl⟩) hK hP hD hS [1, 2, 3, 4] [0] 0 1 rfl rfl rfl rfl rfl rfl rfl rfl rfl hl.1 rfl (Nat.le_of_ble_eq_true rfl) ⟨Nat.zero_le _, Nat.zero_le _⟩ dX1_layLeftOf_58 rfl (fun H locs hP hD hS => ?_)
              refine W.eq (g2 := F0 m 61 ls []) rfl ?_
              rw [hK2] at hF
              refine lv_iconst (v := bI true) hx hb dX1_layLeftOf_61 (by decide) ?_
              refine lv_istore_n (lv' := [(3, .int (bI true)), (0, .ref m0), (1, .int (nI a)), (2, .int (nI b)), (4, .int (nI k))]) hx hb dX1_layLeftOf_62 rfl hl (by decide) rfl (fun ls hl => ?_)
              refine lv_iinc (v := nI (k + 1)) (lv' := [(4, .int (nI (k + 1))), (3, .int (bI true)), (0, .ref m0), (1, .int (nI a)), (2, .int (nI b))]) hx hb dX1_layLeftOf_63 hl (k := 4) rfl (by rw [show Int32.ofInt 1 = 1 from rfl]; exact nI_1 _) (by decide) rfl (fun ls hl => ?_)
              refine lv_goto (tgt := 5) hx hb dX1_layLeftOf_66 (by decide) ?_
              exact ih_loop true K2 (k + 1) R H locs ls (by omega) (by omega) hF hP hD hS (lv_sub hl [2, 3, 4, 1, 0] rfl)
  exact loop (n + 1) false (fx, fy, ax, ay, sp) 0 R _ _ ls (by omega) (by omega) hR hP hD hS (lv_sub hl [2, 3, 4, 1, 0] rfl)
set_option maxHeartbeats 4000000 in
set_option maxRecDepth 100000 in
theorem c_X1_insertRound (l : Launch) (dC : Nat → ClassId) (dI : Nat → Nat → Nat) (m0 s0 g0 ra sa oa ma : Nat) (cI : ClassId) (xa ya : Nat) (cc rc : Int32) (x y : Nat → Int32) (sz : Int32) (rg : Nat → Nat) (fi en v : Nat) (l1 : fi ≤ en) (l2 : en < 105) (lv : v < 20) (lr : ∀ j, rg j < 20) (R : Nat → Nat) (hR : j_ins x y fi v rg en = R) : Met l yX1_insertRound wsX1_insertRound ({ frames := 2, cells := 0, slots := 0, locals := 47 }) (q_Pm (dC, dI) [.ref m0, .int (nI fi), .int (nI en), .int (nI v)] [(m0, .inr (1, [.ref s0, .ref g0, .ref ra, .ref sa, .ref oa, .int cc, .ref ma, .int rc])), (ra, .inl (cI, 105, .inl (fun j => nI (rg j)))), (s0, .inr (2, [.ref xa, .ref ya, .int sz])), (xa, .inl (cI, 20, .inl x)), (ya, .inl (cI, 20, .inl y))] [(cI, .int)]) (q_Qm (dC, dI) (q_in [(m0, .inr (1, [.ref s0, .ref g0, .ref ra, .ref sa, .ref oa, .int cc, .ref ma, .int rc])), (ra, .inl (cI, 105, .inl (fun j => nI (rg j)))), (s0, .inr (2, [.ref xa, .ref ya, .int sz])), (xa, .inl (cI, 20, .inl x)), (ya, .inl (cI, 20, .inl y))]) none [(m0, .inr (1, [.ref s0, .ref g0, .ref ra, .ref sa, .ref oa, .int cc, .ref ma, .int rc])), (ra, .inl (cI, 105, .inl (fun j => nI (R j)))), (s0, .inr (2, [.ref xa, .ref ya, .int sz])), (xa, .inl (cI, 20, .inl x)), (ya, .inl (cI, 20, .inl y))]) 0 0 (q_in [(m0, .inr (1, [.ref s0, .ref g0, .ref ra, .ref sa, .ref oa, .int cc, .ref ma, .int rc])), (ra, .inl (cI, 105, .inl (fun j => nI (rg j)))), (s0, .inr (2, [.ref xa, .ref ya, .int sz])), (xa, .inl (cI, 20, .inl x)), (ya, .inl (cI, 20, .inl y))]) := by
  refine Met.ofW (cc := cX1_insertRound) (maxL := 5) (ret := none) (by decide) rfl ?_
  intro p e s m args below meth c s₁ B hml hv
  obtain ⟨rfl, hP, hK, hD0⟩ := hv
  have hx := B.exec
  have hb := B.bytes
  have hr := B.returns
  have hts := atoms_spec (ws := wsX1_insertRound) B.pre
  have hown : s.vm.findClass RX1 = some m.cls := findClass_of_methodNamed B.named
  have hlocks := B.notSynchronized
  have hD := q_inD hD0
  generalize hAe : q_in [(m0, .inr (1, [.ref s0, .ref g0, .ref ra, .ref sa, .ref oa, .int cc, .ref ma, .int rc])), (ra, .inl (cI, 105, .inl (fun j => nI (rg j)))), (s0, .inr (2, [.ref xa, .ref ya, .int sz])), (xa, .inl (cI, 20, .inl x)), (ya, .inl (cI, 20, .inl y))] = A at hD ⊢
  have hS : va_S A s.heap s.heap [] := va_S.rf
  have hP : va_P (dC, dI) vwCl [(m0, .inr (1, [.ref s0, .ref g0, .ref ra, .ref sa, .ref oa, .int cc, .ref ma, .int rc])), (ra, .inl (cI, 105, .inl (fun j => nI (rg j)))), (s0, .inr (2, [.ref xa, .ref ya, .int sz])), (xa, .inl (cI, 20, .inl x)), (ya, .inl (cI, 20, .inl y))] s.heap := hP
  have hl := lv_entry ([.ref m0, .int (nI fi), .int (nI en), .int (nI v)]) (n := 5) (Nat.le_of_ble_eq_true rfl)
  rw [lg_entry_eq]
  generalize (lg_sl ([.ref m0, .int (nI fi), .int (nI en), .int (nI v)]) ++ List.replicate (5 - (lg_sl ([.ref m0, .int (nI fi), .int (nI en), .int (nI v)])).length) Slot.unset).toArray = ls at hl ⊢
  have hl : lv_has ls 5 [(0, .ref m0), (1, .int (nI fi)), (2, .int (nI en)), (3, .int (nI v))] := hl
  refine lv_iload_n hx hb dX1_insertRound_0 rfl (lv_at hl 2 rfl) ?_
  refine lv_istore (lv' := [(4, .int (nI en)), (0, .ref m0), (1, .int (nI fi)), (2, .int (nI en)), (3, .int (nI v))]) hx hb dX1_insertRound_1 hl (by decide) rfl (fun ls hl => ?_)
  have loop : ∀ (f : Nat) (rg : Nat → Nat) (t : Nat) (R : Nat → Nat) (H : Heap) (locs : List Loc) (ls : Array Slot), (fi ≤ t) → (t < 105) → (t + 1 ≤ f) → (∀ j, rg j < 20) → j_ins x y fi v rg t = R → va_P (dC, dI) vwCl [(m0, .inr (1, [.ref s0, .ref g0, .ref ra, .ref sa, .ref oa, .int cc, .ref ma, .int rc])), (ra, .inl (cI, 105, .inl (fun j => nI (rg j)))), (s0, .inr (2, [.ref xa, .ref ya, .int sz])), (xa, .inl (cI, 20, .inl x)), (ya, .inl (cI, 20, .inl y))] H → va_D A [(m0, .inr (1, [.ref s0, .ref g0, .ref ra, .ref sa, .ref oa, .int cc, .ref ma, .int rc])), (ra, .inl (cI, 105, .inl (fun j => nI (rg j)))), (s0, .inr (2, [.ref xa, .ref ya, .int sz])), (xa, .inl (cI, 20, .inl x)), (ya, .inl (cI, 20, .inl y))] → va_S A s.heap H locs → lv_has ls 5 [(0, .ref m0), (1, .int (nI fi)), (2, .int (nI en)), (3, .int (nI v)), (4, .int (nI t))] → W p l e (headSpec wsX1_insertRound ({ frames := 2, cells := 0, slots := 0, locals := 47 })).room s m ([.ref m0, .int (nI fi), .int (nI en), .int (nI v)] : List Value).toArray below meth c H locs 0 0 (MQ below (q_Qm (dC, dI) A none [(m0, .inr (1, [.ref s0, .ref g0, .ref ra, .ref sa, .ref oa, .int cc, .ref ma, .int rc])), (ra, .inl (cI, 105, .inl (fun j => nI (R j)))), (s0, .inr (2, [.ref xa, .ref ya, .int sz])), (xa, .inl (cI, 20, .inl x)), (ya, .inl (cI, 20, .inl y))]) ([.ref m0, .int (nI fi), .int (nI en), .int (nI v)] : List Value).toArray s 0 0 A) (F0 m 3 ls []) := by
    intro f
    induction f with
    | zero =>
      intro rg t R H locs ls h1 h2 h3 h4
      omega
    | succ f ih_loop =>
      intro rg t R H locs ls h1 h2 h3 h4 hF hP hD hS hl
      refine lv_iload hx hb dX1_insertRound_3 (lv_at hl 4 rfl) ?_
      refine lv_iload_n hx hb dX1_insertRound_5 rfl (lv_at hl 1 rfl) ?_
      refine lv_iconst (v := nI 1) hx hb dX1_insertRound_6 (by decide) ?_
      refine q_iadd hx hb dX1_insertRound_7 ?_
      refine q_icmp_le (tgt := 59) (by omega) (by omega) hx hb dX1_insertRound_8 (by decide) (fun c8 => ?_) (fun c8 => ?_)
      · rw [j_ins, if_pos c8] at hF
        subst hF
        refine lv_aload_n hx hb dX1_insertRound_59 rfl (lv_at hl 0 rfl) ?_
        refine va_get (D := (dC, dI)) (ci := 1) (v := .ref ra) (C := RX1) (T := TX1) (N := 8) hx hb hts (by decide +kernel) hown hK hP 0 rfl rfl 2 (by decide) (hts (.fieldLink RX1 18 "CircleCells$Mosaic" "ring" "[I") (by decide +kernel)) (fun _ h9 => h9) rfl dX1_insertRound_60 ?_
        refine lv_iload hx hb dX1_insertRound_63 (lv_at hl 4 rfl) ?_
        refine lv_iload_n hx hb dX1_insertRound_65 rfl (lv_at hl 3 rfl) ?_
        refine q_iast (ws' := [(m0, .inr (1, [.ref s0, .ref g0, .ref ra, .ref sa, .ref oa, .int cc, .ref ma, .int rc])), (ra, .inl (cI, 105, .inl (fun j => nI ((updN rg t v) j)))), (s0, .inr (2, [.ref xa, .ref ya, .int sz])), (xa, .inl (cI, 20, .inl x)), (ya, .inl (cI, 20, .inl y))]) hx hb hK hP hD hS 1 0 rfl rfl (t) rfl (by omega) (by decide) dX1_insertRound_66 (by rw [upd_nI]; rfl) (fun H locs hP hD hS => ?_)
        exact W.vret hx hb hr (q_retm hP hS) hS.2.2 dX1_insertRound_67
      · rw [j_ins, if_neg (by omega)] at hF
        refine lv_aload_n hx hb dX1_insertRound_11 rfl (lv_at hl 0 rfl) ?_
        refine va_get (D := (dC, dI)) (ci := 1) (v := .ref s0) (C := RX1) (T := TX1) (N := 8) hx hb hts (by decide +kernel) hown hK hP 0 rfl rfl 0 (by decide) (hts (.fieldLink RX1 38 "CircleCells$Mosaic" "sites" "LCircleCells$Sites;") (by decide +kernel)) (fun _ h9 => h9) rfl dX1_insertRound_12 ?_
        refine lv_aload_n hx hb dX1_insertRound_15 rfl (lv_at hl 0 rfl) ?_
        refine va_get (D := (dC, dI)) (ci := 1) (v := .ref ra) (C := RX1) (T := TX1) (N := 8) hx hb hts (by decide +kernel) hown hK hP 0 rfl rfl 2 (by decide) (hts (.fieldLink RX1 18 "CircleCells$Mosaic" "ring" "[I") (by decide +kernel)) (fun _ h9 => h9) rfl dX1_insertRound_16 ?_
        refine lv_iload_n hx hb dX1_insertRound_19 rfl (lv_at hl 1 rfl) ?_
        refine q_iald hx hb hK hP 1 0 rfl rfl (fi) rfl (by omega) (by decide) dX1_insertRound_20 ?_
        refine lv_aload_n hx hb dX1_insertRound_21 rfl (lv_at hl 0 rfl) ?_
        refine va_get (D := (dC, dI)) (ci := 1) (v := .ref ra) (C := RX1) (T := TX1) (N := 8) hx hb hts (by decide +kernel) hown hK hP 0 rfl rfl 2 (by decide) (hts (.fieldLink RX1 18 "CircleCells$Mosaic" "ring" "[I") (by decide +kernel)) (fun _ h9 => h9) rfl dX1_insertRound_22 ?_
        refine lv_iload hx hb dX1_insertRound_25 (lv_at hl 4 rfl) ?_
        refine lv_iconst (v := nI 1) hx hb dX1_insertRound_27 (by decide) ?_
        refine q_isub (by omega) hx hb dX1_insertRound_28 ?_
        refine q_iald hx hb hK hP 1 0 rfl rfl (t - 1) rfl (by omega) (by decide) dX1_insertRound_29 ?_
        refine lv_iload_n hx hb dX1_insertRound_30 rfl (lv_at hl 3 rfl) ?_
        refine q_cV (As := [.int (nI (rg fi)), .int (nI (rg (t - 1))), .int (nI v)]) (rest := []) ⟨hx, hb, hml, hown, hts⟩ (c_X2_turn_ l dC dI s0 xa ya cI x y sz (rg fi) (rg (t - 1)) v (h4 _) (h4 _) (by omega)) (cwV 3 hts gX1_insertRound_X2_turn_ rfl rfl rfl (by decide +kernel) ⟨Nat.le_of_ble_eq_true rfl, Nat.le_of_ble_eq_true rfl⟩) (q_pV hK hP [2, 3, 4] [0] 2 2 rfl rfl rfl rfl rfl rfl) rfl hl.1 rfl (Nat.le_of_ble_eq_true rfl) ⟨Nat.zero_le _, Nat.zero_le _⟩ dX1_insertRound_31 ?_
        refine lv_if_ge (tgt := 59) hx hb dX1_insertRound_34 (by decide) (fun c34 => ?_) (fun c34 => ?_)
        · rw [if_pos c34] at hF
          subst hF
          refine lv_aload_n hx hb dX1_insertRound_59 rfl (lv_at hl 0 rfl) ?_
          refine va_get (D := (dC, dI)) (ci := 1) (v := .ref ra) (C := RX1) (T := TX1) (N := 8) hx hb hts (by decide +kernel) hown hK hP 0 rfl rfl 2 (by decide) (hts (.fieldLink RX1 18 "CircleCells$Mosaic" "ring" "[I") (by decide +kernel)) (fun _ h9 => h9) rfl dX1_insertRound_60 ?_
          refine lv_iload hx hb dX1_insertRound_63 (lv_at hl 4 rfl) ?_
          refine lv_iload_n hx hb dX1_insertRound_65 rfl (lv_at hl 3 rfl) ?_
          refine q_iast (ws' := [(m0, .inr (1, [.ref s0, .ref g0, .ref ra, .ref sa, .ref oa, .int cc, .ref ma, .int rc])), (ra, .inl (cI, 105, .inl (fun j => nI ((updN rg t v) j)))), (s0, .inr (2, [.ref xa, .ref ya, .int sz])), (xa, .inl (cI, 20, .inl x)), (ya, .inl (cI, 20, .inl y))]) hx hb hK hP hD hS 1 0 rfl rfl (t) rfl (by omega) (by decide) dX1_insertRound_66 (by rw [upd_nI]; rfl) (fun H locs hP hD hS => ?_)
          exact W.vret hx hb hr (q_retm hP hS) hS.2.2 dX1_insertRound_67
        · rw [if_neg c34] at hF
          refine lv_aload_n hx hb dX1_insertRound_37 rfl (lv_at hl 0 rfl) ?_
          refine va_get (D := (dC, dI)) (ci := 1) (v := .ref ra) (C := RX1) (T := TX1) (N := 8) hx hb hts (by decide +kernel) hown hK hP 0 rfl rfl 2 (by decide) (hts (.fieldLink RX1 18 "CircleCells$Mosaic" "ring" "[I") (by decide +kernel)) (fun _ h9 => h9) rfl dX1_insertRound_38 ?_
          refine lv_iload hx hb dX1_insertRound_41 (lv_at hl 4 rfl) ?_
          refine lv_aload_n hx hb dX1_insertRound_43 rfl (lv_at hl 0 rfl) ?_
          refine va_get (D := (dC, dI)) (ci := 1) (v := .ref ra) (C := RX1) (T := TX1) (N := 8) hx hb hts (by decide +kernel) hown hK hP 0 rfl rfl 2 (by decide) (hts (.fieldLink RX1 18 "CircleCells$Mosaic" "ring" "[I") (by decide +kernel)) (fun _ h9 => h9) rfl dX1_insertRound_44 ?_
          refine lv_iload hx hb dX1_insertRound_47 (lv_at hl 4 rfl) ?_
          refine lv_iconst (v := nI 1) hx hb dX1_insertRound_49 (by decide) ?_
          refine q_isub (by omega) hx hb dX1_insertRound_50 ?_
          refine q_iald hx hb hK hP 1 0 rfl rfl (t - 1) rfl (by omega) (by decide) dX1_insertRound_51 ?_
          refine q_iast (ws' := [(m0, .inr (1, [.ref s0, .ref g0, .ref ra, .ref sa, .ref oa, .int cc, .ref ma, .int rc])), (ra, .inl (cI, 105, .inl (fun j => nI ((updN rg t (rg (t - 1))) j)))), (s0, .inr (2, [.ref xa, .ref ya, .int sz])), (xa, .inl (cI, 20, .inl x)), (ya, .inl (cI, 20, .inl y))]) hx hb hK hP hD hS 1 0 rfl rfl (t) rfl (by omega) (by decide) dX1_insertRound_52 (by rw [upd_nI]; rfl) (fun H locs hP hD hS => ?_)
          refine lv_iinc (v := nI (t - 1)) (lv' := [(4, .int (nI (t - 1))), (0, .ref m0), (1, .int (nI fi)), (2, .int (nI en)), (3, .int (nI v))]) hx hb dX1_insertRound_53 hl (k := 4) rfl (by rw [show Int32.ofInt (-1) = -1 from rfl]; exact sb_m1 (by omega)) (by decide) rfl (fun ls hl => ?_)
          refine lv_goto (tgt := 3) hx hb dX1_insertRound_56 (by decide) ?_
          exact ih_loop (updN rg t (rg (t - 1))) (t - 1) R H locs ls (by omega) (by omega) (by omega) (updN_lt h4 (h4 _)) hF hP hD hS (lv_sub hl [1, 2, 3, 4, 0] rfl)
  exact loop (en + 1) rg en R _ _ ls (by omega) (by omega) (by omega) lr hR hP hD hS (lv_sub hl [1, 2, 3, 4, 0] rfl)
set_option maxHeartbeats 4000000 in
set_option maxRecDepth 100000 in
theorem c_X1_claimSides (l : Launch) (dC : Nat → ClassId) (dI : Nat → Nat → Nat) (m0 s0 g0 ra sa oa ma : Nat) (cI : ClassId) (cc rc : Int32) (rg sr : Nat → Nat) (ow : Nat → Int32) (d : Nat) (ld : d < 35) (lm : sr d ≤ sr (d + 1)) (le : sr (d + 1) ≤ 105) (lr : ∀ j, rg j < 20) (R : Nat → Int32) (hR : j_claim rg sr d ow 0 = R) : Met l yX1_claimSides wsX1_claimSides ({ frames := 2, cells := 0, slots := 0, locals := 44 }) (q_Pm (dC, dI) [.ref m0, .int (nI d)] [(m0, .inr (1, [.ref s0, .ref g0, .ref ra, .ref sa, .ref oa, .int cc, .ref ma, .int rc])), (ra, .inl (cI, 105, .inl (fun j => nI (rg j)))), (sa, .inl (cI, 36, .inl (fun j => nI (sr j)))), (oa, .inl (cI, 400, .inl ow))] [(cI, .int)]) (q_Qm (dC, dI) (q_in [(m0, .inr (1, [.ref s0, .ref g0, .ref ra, .ref sa, .ref oa, .int cc, .ref ma, .int rc])), (ra, .inl (cI, 105, .inl (fun j => nI (rg j)))), (sa, .inl (cI, 36, .inl (fun j => nI (sr j)))), (oa, .inl (cI, 400, .inl ow))]) none [(m0, .inr (1, [.ref s0, .ref g0, .ref ra, .ref sa, .ref oa, .int cc, .ref ma, .int rc])), (ra, .inl (cI, 105, .inl (fun j => nI (rg j)))), (sa, .inl (cI, 36, .inl (fun j => nI (sr j)))), (oa, .inl (cI, 400, .inl R))]) 0 0 (q_in [(m0, .inr (1, [.ref s0, .ref g0, .ref ra, .ref sa, .ref oa, .int cc, .ref ma, .int rc])), (ra, .inl (cI, 105, .inl (fun j => nI (rg j)))), (sa, .inl (cI, 36, .inl (fun j => nI (sr j)))), (oa, .inl (cI, 400, .inl ow))]) := by
  refine Met.ofW (cc := cX1_claimSides) (maxL := 4) (ret := none) (by decide) rfl ?_
  intro p e s m args below meth c s₁ B hml hv
  obtain ⟨rfl, hP, hK, hD0⟩ := hv
  have hx := B.exec
  have hb := B.bytes
  have hr := B.returns
  have hts := atoms_spec (ws := wsX1_claimSides) B.pre
  have hown : s.vm.findClass RX1 = some m.cls := findClass_of_methodNamed B.named
  have hlocks := B.notSynchronized
  have hD := q_inD hD0
  generalize hAe : q_in [(m0, .inr (1, [.ref s0, .ref g0, .ref ra, .ref sa, .ref oa, .int cc, .ref ma, .int rc])), (ra, .inl (cI, 105, .inl (fun j => nI (rg j)))), (sa, .inl (cI, 36, .inl (fun j => nI (sr j)))), (oa, .inl (cI, 400, .inl ow))] = A at hD ⊢
  have hS : va_S A s.heap s.heap [] := va_S.rf
  have hP : va_P (dC, dI) vwCl [(m0, .inr (1, [.ref s0, .ref g0, .ref ra, .ref sa, .ref oa, .int cc, .ref ma, .int rc])), (ra, .inl (cI, 105, .inl (fun j => nI (rg j)))), (sa, .inl (cI, 36, .inl (fun j => nI (sr j)))), (oa, .inl (cI, 400, .inl ow))] s.heap := hP
  have hl := lv_entry ([.ref m0, .int (nI d)]) (n := 4) (Nat.le_of_ble_eq_true rfl)
  rw [lg_entry_eq]
  generalize (lg_sl ([.ref m0, .int (nI d)]) ++ List.replicate (4 - (lg_sl ([.ref m0, .int (nI d)])).length) Slot.unset).toArray = ls at hl ⊢
  have hl : lv_has ls 4 [(0, .ref m0), (1, .int (nI d))] := hl
  refine lv_aload_n hx hb dX1_claimSides_0 rfl (lv_at hl 0 rfl) ?_
  refine lv_iload_n hx hb dX1_claimSides_1 rfl (lv_at hl 1 rfl) ?_
  refine q_cV (As := [.int (nI d)]) (rest := []) ⟨hx, hb, hml, hown, hts⟩ (c_X1_sideCount l dC dI m0 s0 g0 ra sa oa ma cI cc rc sr d (by omega) (by omega)) (cwV 1 hts gX1_claimSides_X1_sideCount rfl rfl rfl (by decide +kernel) ⟨Nat.le_of_ble_eq_true rfl, Nat.le_of_ble_eq_true rfl⟩) (q_pV hK hP [0, 2] [0] 1 0 rfl rfl rfl rfl rfl rfl) rfl hl.1 rfl (Nat.le_of_ble_eq_true rfl) ⟨Nat.zero_le _, Nat.zero_le _⟩ dX1_claimSides_2 ?_
  refine lv_istore_n (lv' := [(2, .int (nI (sr (d + 1) - sr d))), (0, .ref m0), (1, .int (nI d))]) hx hb dX1_claimSides_5 rfl hl (by decide) rfl (fun ls hl => ?_)
  refine lv_iconst (v := nI 0) hx hb dX1_claimSides_6 (by decide) ?_
  refine lv_istore_n (lv' := [(3, .int (nI 0)), (2, .int (nI (sr (d + 1) - sr d))), (0, .ref m0), (1, .int (nI d))]) hx hb dX1_claimSides_7 rfl hl (by decide) rfl (fun ls hl => ?_)
  have loop : ∀ (f : Nat) (ow : Nat → Int32) (i : Nat) (R : Nat → Int32) (H : Heap) (locs : List Loc) (ls : Array Slot), (i ≤ sr (d + 1) - sr d) → (sr (d + 1) - sr d + 1 ≤ i + f) → j_claim rg sr d ow i = R → va_P (dC, dI) vwCl [(m0, .inr (1, [.ref s0, .ref g0, .ref ra, .ref sa, .ref oa, .int cc, .ref ma, .int rc])), (ra, .inl (cI, 105, .inl (fun j => nI (rg j)))), (sa, .inl (cI, 36, .inl (fun j => nI (sr j)))), (oa, .inl (cI, 400, .inl ow))] H → va_D A [(m0, .inr (1, [.ref s0, .ref g0, .ref ra, .ref sa, .ref oa, .int cc, .ref ma, .int rc])), (ra, .inl (cI, 105, .inl (fun j => nI (rg j)))), (sa, .inl (cI, 36, .inl (fun j => nI (sr j)))), (oa, .inl (cI, 400, .inl ow))] → va_S A s.heap H locs → lv_has ls 4 [(0, .ref m0), (1, .int (nI d)), (2, .int (nI (sr (d + 1) - sr d))), (3, .int (nI i))] → W p l e (headSpec wsX1_claimSides ({ frames := 2, cells := 0, slots := 0, locals := 44 })).room s m ([.ref m0, .int (nI d)] : List Value).toArray below meth c H locs 0 0 (MQ below (q_Qm (dC, dI) A none [(m0, .inr (1, [.ref s0, .ref g0, .ref ra, .ref sa, .ref oa, .int cc, .ref ma, .int rc])), (ra, .inl (cI, 105, .inl (fun j => nI (rg j)))), (sa, .inl (cI, 36, .inl (fun j => nI (sr j)))), (oa, .inl (cI, 400, .inl R))]) ([.ref m0, .int (nI d)] : List Value).toArray s 0 0 A) (F0 m 8 ls []) := by
    intro f
    induction f with
    | zero =>
      intro ow i R H locs ls h1 h2
      omega
    | succ f ih_loop =>
      intro ow i R H locs ls h1 h2 hF hP hD hS hl
      refine lv_iload_n hx hb dX1_claimSides_8 rfl (lv_at hl 3 rfl) ?_
      refine lv_iload_n hx hb dX1_claimSides_9 rfl (lv_at hl 2 rfl) ?_
      refine q_icmp_ge (tgt := 40) (by omega) (by omega) hx hb dX1_claimSides_10 (by decide) (fun c10 => ?_) (fun c10 => ?_)
      · rw [j_claim, if_neg (by omega)] at hF
        subst hF
        exact W.vret hx hb hr (q_retm hP hS) hS.2.2 dX1_claimSides_40
      · rw [j_claim, if_pos c10] at hF
        refine lv_aload_n hx hb dX1_claimSides_13 rfl (lv_at hl 0 rfl) ?_
        refine va_get (D := (dC, dI)) (ci := 1) (v := .ref oa) (C := RX1) (T := TX1) (N := 8) hx hb hts (by decide +kernel) hown hK hP 0 rfl rfl 4 (by decide) (hts (.fieldLink RX1 25 "CircleCells$Mosaic" "owner" "[I") (by decide +kernel)) (fun _ h9 => h9) rfl dX1_claimSides_14 ?_
        refine lv_aload_n hx hb dX1_claimSides_17 rfl (lv_at hl 0 rfl) ?_
        refine lv_iload_n hx hb dX1_claimSides_18 rfl (lv_at hl 1 rfl) ?_
        refine lv_iload_n hx hb dX1_claimSides_19 rfl (lv_at hl 3 rfl) ?_
        refine q_cV (As := [.int (nI d), .int (nI i)]) (rest := [.ref oa]) ⟨hx, hb, hml, hown, hts⟩ (c_X1_siteOf l dC dI m0 s0 g0 ra sa oa ma cI cc rc rg sr d i (by omega) (by omega)) (cwV 2 hts gX1_claimSides_X1_siteOf rfl rfl rfl (by decide +kernel) ⟨Nat.le_of_ble_eq_true rfl, Nat.le_of_ble_eq_true rfl⟩) (q_pV hK hP [0, 1, 2] [0] 1 0 rfl rfl rfl rfl rfl rfl) rfl hl.1 rfl (Nat.le_of_ble_eq_true rfl) ⟨Nat.zero_le _, Nat.zero_le _⟩ dX1_claimSides_20 ?_
        refine lv_aload_n hx hb dX1_claimSides_23 rfl (lv_at hl 0 rfl) ?_
        refine lv_iload_n hx hb dX1_claimSides_24 rfl (lv_at hl 1 rfl) ?_
        refine lv_iload_n hx hb dX1_claimSides_25 rfl (lv_at hl 3 rfl) ?_
        refine q_cV (As := [.int (nI d), .int (nI i)]) (rest := [.int (nI (rg (sr d + i))), .ref oa]) ⟨hx, hb, hml, hown, hts⟩ (c_X1_siteAfter l dC dI m0 s0 g0 ra sa oa ma cI cc rc rg sr d i (by omega) (by omega) (by omega) (by omega)) (cwV 2 hts gX1_claimSides_X1_siteAfter rfl rfl rfl (by decide +kernel) ⟨Nat.le_of_ble_eq_true rfl, Nat.le_of_ble_eq_true rfl⟩) (q_pV hK hP [0, 1, 2] [0] 1 0 rfl rfl rfl rfl rfl rfl) rfl hl.1 rfl (Nat.le_of_ble_eq_true rfl) ⟨Nat.zero_le _, Nat.zero_le _⟩ dX1_claimSides_26 ?_
        refine q_cS (As := [.int (nI (rg (sr d + i))), .int (nI (j_after rg sr d i))]) (rest := [.ref oa]) ⟨hx, hb, hml, hown, hts⟩ (c_X1_sideKey l dC dI (rg (sr d + i)) (j_after rg sr d i)) (va_cwS 2 hts gX1_claimSides_X1_sideKey rfl rfl rfl (by decide +kernel) ⟨Nat.le_of_ble_eq_true rfl, Nat.le_of_ble_eq_true rfl⟩) (q_pS hK hP [] [] rfl rfl rfl) rfl hl.1 rfl (Nat.le_of_ble_eq_true rfl) ⟨Nat.zero_le _, Nat.zero_le _⟩ dX1_claimSides_29 ?_
        refine lv_iload_n hx hb dX1_claimSides_32 rfl (lv_at hl 1 rfl) ?_
        refine q_iast (ws' := [(m0, .inr (1, [.ref s0, .ref g0, .ref ra, .ref sa, .ref oa, .int cc, .ref ma, .int rc])), (ra, .inl (cI, 105, .inl (fun j => nI (rg j)))), (sa, .inl (cI, 36, .inl (fun j => nI (sr j)))), (oa, .inl (cI, 400, .inl (upd ow ((rg (sr d + i)) * 20 + (j_after rg sr d i)) (nI d))))]) hx hb hK hP hD hS 3 0 rfl rfl ((rg (sr d + i)) * 20 + (j_after rg sr d i)) rfl (by have h8 := lr (sr d + i); have h9 : j_after rg sr d i < 20 := lr _; omega) (by decide) dX1_claimSides_33 rfl (fun H locs hP hD hS => ?_)
        refine lv_iinc (v := nI (i + 1)) (lv' := [(3, .int (nI (i + 1))), (0, .ref m0), (1, .int (nI d)), (2, .int (nI (sr (d + 1) - sr d)))]) hx hb dX1_claimSides_34 hl (k := 3) rfl (by rw [show Int32.ofInt 1 = 1 from rfl]; exact nI_1 _) (by decide) rfl (fun ls hl => ?_)
        refine lv_goto (tgt := 8) hx hb dX1_claimSides_37 (by decide) ?_
        exact ih_loop (upd ow ((rg (sr d + i)) * 20 + (j_after rg sr d i)) (nI d)) (i + 1) R H locs ls (by omega) (by omega) hF hP hD hS (lv_sub hl [1, 2, 3, 0] rfl)
  exact loop (sr (d + 1) - sr d + 1) ow 0 R _ _ ls (by omega) (by omega) hR hP hD hS (lv_sub hl [2, 3, 1, 0] rfl)
set_option maxHeartbeats 4000000 in
set_option maxRecDepth 100000 in
theorem c_J7_fill_53178 (l : Launch) (dC : Nat → ClassId) (dI : Nat → Nat → Nat) (oa : Nat) (cI : ClassId) (N : Nat) (ow : Nat → Int32) (v : Int32) (lN : N < 2 ^ 31) (R : Nat → Int32) (hR : j_fill v N ow 0 = R) : Met l yJ7_fill_53178 wsJ7_fill_53178 ({ frames := 0, cells := 0, slots := 0, locals := 0 }) (q_Pm (dC, dI) [.ref oa, .int v] [(oa, .inl (cI, N, .inl ow))] [(cI, .int)]) (q_Qm (dC, dI) (q_in [(oa, .inl (cI, N, .inl ow))]) none [(oa, .inl (cI, N, .inl R))]) 0 0 (q_in [(oa, .inl (cI, N, .inl ow))]) := by
  refine Met.ofW (cc := cJ7_fill_53178) (maxL := 4) (ret := none) (by decide) rfl ?_
  intro p e s m args below meth c s₁ B hml hv
  obtain ⟨rfl, hP, hK, hD0⟩ := hv
  have hx := B.exec
  have hb := B.bytes
  have hr := B.returns
  have hts := atoms_spec (ws := wsJ7_fill_53178) B.pre
  have hown : s.vm.findClass RJ7 = some m.cls := findClass_of_methodNamed B.named
  have hlocks := B.notSynchronized
  have hD := q_inD hD0
  generalize hAe : q_in [(oa, .inl (cI, N, .inl ow))] = A at hD ⊢
  have hS : va_S A s.heap s.heap [] := va_S.rf
  have hP : va_P (dC, dI) vwCl [(oa, .inl (cI, N, .inl ow))] s.heap := hP
  have hl := lv_entry ([.ref oa, .int v]) (n := 4) (Nat.le_of_ble_eq_true rfl)
  rw [lg_entry_eq]
  generalize (lg_sl ([.ref oa, .int v]) ++ List.replicate (4 - (lg_sl ([.ref oa, .int v])).length) Slot.unset).toArray = ls at hl ⊢
  have hl : lv_has ls 4 [(0, .ref oa), (1, .int v)] := hl
  refine lv_iconst (v := nI 0) hx hb dJ7_fill_53178_0 (by decide) ?_
  refine lv_istore_n (lv' := [(2, .int (nI 0)), (0, .ref oa), (1, .int v)]) hx hb dJ7_fill_53178_1 rfl hl (by decide) rfl (fun ls hl => ?_)
  refine lv_aload_n hx hb dJ7_fill_53178_2 rfl (lv_at hl 1 rfl) ?_
  refine va_alen (v := nI N) hx hb hK hP 0 0 rfl rfl rfl dJ7_fill_53178_3 ?_
  refine lv_istore_n (lv' := [(3, .int (nI N)), (2, .int (nI 0)), (0, .ref oa), (1, .int v)]) hx hb dJ7_fill_53178_4 rfl hl (by decide) rfl (fun ls hl => ?_)
  have loop : ∀ (f : Nat) (ow : Nat → Int32) (k : Nat) (R : Nat → Int32) (H : Heap) (locs : List Loc) (ls : Array Slot), (k ≤ N) → (N + 1 ≤ k + f) → j_fill v N ow k = R → va_P (dC, dI) vwCl [(oa, .inl (cI, N, .inl ow))] H → va_D A [(oa, .inl (cI, N, .inl ow))] → va_S A s.heap H locs → lv_has ls 4 [(0, .ref oa), (1, .int v), (2, .int (nI k)), (3, .int (nI N))] → W p l e (headSpec wsJ7_fill_53178 ({ frames := 0, cells := 0, slots := 0, locals := 0 })).room s m ([.ref oa, .int v] : List Value).toArray below meth c H locs 0 0 (MQ below (q_Qm (dC, dI) A none [(oa, .inl (cI, N, .inl R))]) ([.ref oa, .int v] : List Value).toArray s 0 0 A) (F0 m 5 ls []) := by
    intro f
    induction f with
    | zero =>
      intro ow k R H locs ls h1 h2
      omega
    | succ f ih_loop =>
      intro ow k R H locs ls h1 h2 hF hP hD hS hl
      refine lv_iload_n hx hb dJ7_fill_53178_5 rfl (lv_at hl 2 rfl) ?_
      refine lv_iload_n hx hb dJ7_fill_53178_6 rfl (lv_at hl 3 rfl) ?_
      refine q_icmp_ge (tgt := 20) (by omega) (by omega) hx hb dJ7_fill_53178_7 (by decide) (fun c7 => ?_) (fun c7 => ?_)
      · rw [j_fill, if_neg (by omega)] at hF
        subst hF
        exact W.vret hx hb hr (q_retm hP hS) hS.2.2 dJ7_fill_53178_20
      · rw [j_fill, if_pos c7] at hF
        refine lv_aload_n hx hb dJ7_fill_53178_10 rfl (lv_at hl 0 rfl) ?_
        refine lv_iload_n hx hb dJ7_fill_53178_11 rfl (lv_at hl 2 rfl) ?_
        refine lv_iload_n hx hb dJ7_fill_53178_12 rfl (lv_at hl 1 rfl) ?_
        refine q_iast (ws' := [(oa, .inl (cI, N, .inl (upd ow k v)))]) hx hb hK hP hD hS 0 0 rfl rfl (k) rfl (by omega) (by omega) dJ7_fill_53178_13 rfl (fun H locs hP hD hS => ?_)
        refine lv_iinc (v := nI (k + 1)) (lv' := [(2, .int (nI (k + 1))), (0, .ref oa), (1, .int v), (3, .int (nI N))]) hx hb dJ7_fill_53178_14 hl (k := 2) rfl (by rw [show Int32.ofInt 1 = 1 from rfl]; exact nI_1 _) (by decide) rfl (fun ls hl => ?_)
        refine lv_goto (tgt := 5) hx hb dJ7_fill_53178_17 (by decide) ?_
        exact ih_loop (upd ow k v) (k + 1) R H locs ls (by omega) (by omega) hF hP hD hS (lv_sub hl [1, 2, 0, 3] rfl)
  exact loop (N + 1) ow 0 R _ _ ls (by omega) (by omega) hR hP hD hS (lv_sub hl [2, 3, 1, 0] rfl)
end
section
/-! Mosaic: addCell, walkRim, build, circleOf -/
theorem updN_s {g : Nat → Nat} {k v : Nat} : updN g k v k = v := if_pos rfl
theorem updN_n {g : Nat → Nat} {k v j : Nat} (h : ¬ j = k) : updN g k v j = g j := if_neg h
def j_addl (x y : Nat → Int32) (K : Int32 × Int32 × Int64 × Int64 × Int64) (n fi : Nat) (rg : Nat → Nat) (en k : Nat) : (Nat → Nat) × Nat :=
  if k < n then (if 105 ≤ en then (rg, en) else if ¬ j_powC K (x k) (y k) = 0 then j_addl x y K n fi rg en (k + 1) else j_addl x y K n fi (j_ins x y fi k rg en) (en + 1) (k + 1)) else (rg, en)
termination_by n - k
def j_fin (sr : Nat → Nat) (ow : Nat → Int32) (q : Nat) (z : (Nat → Nat) × Nat) : (Nat → Nat) × (Nat → Nat) × (Nat → Int32) × Nat := (z.1, updN sr (q + 1) z.2, j_claim z.1 (updN sr (q + 1) z.2) q ow 0, q + 1)
def j_add (x y : Nat → Int32) (K : Int32 × Int32 × Int64 × Int64 × Int64) (n a : Nat) (rg sr : Nat → Nat) (ow : Nat → Int32) (q : Nat) : (Nat → Nat) × (Nat → Nat) × (Nat → Int32) × Nat :=
  if q < 35 then j_fin sr ow q (j_addl x y K n (sr q) rg (sr q) a) else (rg, sr, ow, q)
def j_rim (ow : Nat → Int32) (n : Nat) (fs : Int32) (rm : Nat → Int32) (rc : Nat) (w : Int32) : (Nat → Int32) × Nat :=
  if w = -1 then (rm, rc) else if 20 ≤ rc then (rm, rc) else j_rim ow n fs (upd rm rc w) (rc + 1) (if j_next ow n w.toNatClampNeg 0 = fs then -1 else j_next ow n w.toNatClampNeg 0)
termination_by 20 - rc
theorem j_ins_lt {x y : Nat → Int32} {fi v : Nat} (hv : v < 20) : ∀ (t : Nat) (rg : Nat → Nat), (∀ j, rg j < 20) → ∀ j, j_ins x y fi v rg t j < 20 := by
  intro t
  induction t with
  | zero => intro rg h; rw [j_ins, if_pos (by omega)]; exact updN_lt h hv
  | succ t ih =>
    intro rg h
    rw [j_ins]
    split
    · exact updN_lt h hv
    · split
      · exact updN_lt h hv
      · exact ih _ (updN_lt h (h _))
theorem j_addl_ok {x y : Nat → Int32} {K : Int32 × Int32 × Int64 × Int64 × Int64} {n fi : Nat} (hn : n ≤ 20) : ∀ (f k en : Nat) (rg : Nat → Nat), n ≤ k + f → (∀ j, rg j < 20) → en ≤ 105 → (∀ j, (j_addl x y K n fi rg en k).1 j < 20) ∧ en ≤ (j_addl x y K n fi rg en k).2 ∧ (j_addl x y K n fi rg en k).2 ≤ 105 := by
  intro f
  induction f with
  | zero => intro k en rg h1 h2 h3; rw [j_addl, if_neg (by omega)]; exact ⟨h2, Nat.le_refl _, h3⟩
  | succ f ih =>
    intro k en rg h1 h2 h3
    rw [j_addl]
    split
    · split
      · exact ⟨h2, Nat.le_refl _, h3⟩
      · split
        · exact ih (k + 1) en rg (by omega) h2 h3
        · have := ih (k + 1) (en + 1) (j_ins x y fi k rg en) (by omega) (j_ins_lt (by omega) en rg h2) (by omega)
          exact ⟨this.1, by omega, this.2.2⟩
    · exact ⟨h2, Nat.le_refl _, h3⟩
/-- what keeps the cells' arrays in their bounds -/
def j_ok (z : (Nat → Nat) × (Nat → Nat) × (Nat → Int32) × Nat) : Prop := (∀ j, z.1 j < 20) ∧ z.2.2.2 ≤ 35 ∧ z.2.1 z.2.2.2 ≤ 105
theorem j_add_ok {x y : Nat → Int32} {K : Int32 × Int32 × Int64 × Int64 × Int64} {n a : Nat} (hn : n ≤ 20) {z : (Nat → Nat) × (Nat → Nat) × (Nat → Int32) × Nat} (h : j_ok z) : j_ok (j_add x y K n a z.1 z.2.1 z.2.2.1 z.2.2.2) := by
  obtain ⟨h1, h2, h3⟩ := h
  unfold j_add
  split
  · have := j_addl_ok (x := x) (y := y) (K := K) (fi := z.2.1 z.2.2.2) hn n a (z.2.1 z.2.2.2) z.1 (by omega) h1 h3
    refine ⟨this.1, by show z.2.2.2 + 1 ≤ 35; omega, ?_⟩
    show updN _ (z.2.2.2 + 1) _ (z.2.2.2 + 1) ≤ 105
    rw [updN_s]
    exact this.2.2
  · exact ⟨h1, h2, h3⟩
theorem j_next_c (ow : Nat → Int32) (n a : Nat) : ∀ (f k : Nat), n ≤ k + f → j_next ow n a k = -1 ∨ ∃ v, v < n ∧ j_next ow n a k = nI v := by
  intro f
  induction f with
  | zero => intro k h; rw [j_next, if_neg (by omega)]; exact Or.inl rfl
  | succ f ih =>
    intro k h
    rw [j_next]
    split
    · split
      · exact ih (k + 1) (by omega)
      · split
        · exact Or.inr ⟨k, by omega, rfl⟩
        · exact ih (k + 1) (by omega)
    · exact Or.inl rfl
theorem j_frim_c (ow : Nat → Int32) (n : Nat) : ∀ (f k : Nat), n ≤ k + f → j_frim ow n k = -1 ∨ ∃ v, v < n ∧ j_frim ow n k = nI v := by
  intro f
  induction f with
  | zero => intro k h; rw [j_frim, if_neg (by omega)]; exact Or.inl rfl
  | succ f ih =>
    intro k h
    rw [j_frim]
    split
    · split
      · exact ih (k + 1) (by omega)
      · exact Or.inr ⟨k, by omega, rfl⟩
    · exact Or.inl rfl
def j_step (x y : Nat → Int32) (n a b : Nat) (z : (Int32 × Int32 × Int64 × Int64 × Int64) × (Nat → Nat) × (Nat → Nat) × (Nat → Int32) × Nat) : (Int32 × Int32 × Int64 × Int64 × Int64) × (Nat → Nat) × (Nat → Nat) × (Nat → Int32) × Nat :=
  if (j_left x y n a b false z.1 0).1 = false then ((j_left x y n a b false z.1 0).2, z.2) else if j_begins x y (j_left x y n a b false z.1 0).2.1 (j_left x y n a b false z.1 0).2.2.1 (j_left x y n a b false z.1 0).2.2.2.1 (j_left x y n a b false z.1 0).2.2.2.2.1 (j_left x y n a b false z.1 0).2.2.2.2.2 n a b 0 = false then ((j_left x y n a b false z.1 0).2, z.2) else ((j_left x y n a b false z.1 0).2, j_add x y (j_left x y n a b false z.1 0).2 n a z.2.1 z.2.2.1 z.2.2.2.1 z.2.2.2.2)
def j_bb (x y : Nat → Int32) (n a : Nat) (z : (Int32 × Int32 × Int64 × Int64 × Int64) × (Nat → Nat) × (Nat → Nat) × (Nat → Int32) × Nat) (b : Nat) : (Int32 × Int32 × Int64 × Int64 × Int64) × (Nat → Nat) × (Nat → Nat) × (Nat → Int32) × Nat :=
  if b < n then j_bb x y n a (j_step x y n a b z) (b + 1) else z
termination_by n - b
def j_ba (x y : Nat → Int32) (n : Nat) (z : (Int32 × Int32 × Int64 × Int64 × Int64) × (Nat → Nat) × (Nat → Nat) × (Nat → Int32) × Nat) (a : Nat) : (Int32 × Int32 × Int64 × Int64 × Int64) × (Nat → Nat) × (Nat → Nat) × (Nat → Int32) × Nat :=
  if a < n then j_ba x y n (j_bb x y n a z (a + 1)) (a + 1) else z
termination_by n - a
def j_tail (rm : Nat → Int32) (n : Nat) (z : (Int32 × Int32 × Int64 × Int64 × Int64) × (Nat → Nat) × (Nat → Nat) × (Nat → Int32) × Nat) : ((Int32 × Int32 × Int64 × Int64 × Int64) × (Nat → Nat) × (Nat → Nat) × (Nat → Int32) × Nat) × (Nat → Int32) × Nat := (z, j_rim z.2.2.2.1 n (j_frim z.2.2.2.1 n 0) rm 0 (j_frim z.2.2.2.1 n 0))
set_option maxHeartbeats 4000000 in
set_option maxRecDepth 100000 in
theorem c_X1_addCell (l : Launch) (dC : Nat → ClassId) (dI : Nat → Nat → Nat) (m0 s0 g0 ra sa oa ma : Nat) (cI : ClassId) (xa ya : Nat) (rc : Int32) (x y : Nat → Int32) (fx fy : Int32) (ax ay sp : Int64) (rg sr : Nat → Nat) (ow : Nat → Int32) (q n a : Nat) (ln : n ≤ 20) (la : a ≤ n) (lq : sr q ≤ 105) (lq2 : q ≤ 35) (lr : ∀ j, rg j < 20) (R : (Nat → Nat) × (Nat → Nat) × (Nat → Int32) × Nat) (hR : j_add x y (fx, fy, ax, ay, sp) n a rg sr ow q = R) : Met l yX1_addCell wsX1_addCell ({ frames := 3, cells := 0, slots := 0, locals := 71 }) (q_Pm (dC, dI) [.ref m0, .int (nI a)] [(m0, .inr (1, [.ref s0, .ref g0, .ref ra, .ref sa, .ref oa, .int (nI q), .ref ma, .int rc])), (g0, .inr (0, [.int fx, .int fy, .long ax, .long ay, .long sp])), (s0, .inr (2, [.ref xa, .ref ya, .int (nI n)])), (xa, .inl (cI, 20, .inl x)), (ya, .inl (cI, 20, .inl y)), (ra, .inl (cI, 105, .inl (fun j => nI (rg j)))), (sa, .inl (cI, 36, .inl (fun j => nI (sr j)))), (oa, .inl (cI, 400, .inl ow))] [(cI, .int)]) (q_Qm (dC, dI) (q_in [(m0, .inr (1, [.ref s0, .ref g0, .ref ra, .ref sa, .ref oa, .int (nI q), .ref ma, .int rc])), (g0, .inr (0, [.int fx, .int fy, .long ax, .long ay, .long sp])), (s0, .inr (2, [.ref xa, .ref ya, .int (nI n)])), (xa, .inl (cI, 20, .inl x)), (ya, .inl (cI, 20, .inl y)), (ra, .inl (cI, 105, .inl (fun j => nI (rg j)))), (sa, .inl (cI, 36, .inl (fun j => nI (sr j)))), (oa, .inl (cI, 400, .inl ow))]) none [(m0, .inr (1, [.ref s0, .ref g0, .ref ra, .ref sa, .ref oa, .int (nI R.2.2.2), .ref ma, .int rc])), (g0, .inr (0, [.int fx, .int fy, .long ax, .long ay, .long sp])), (s0, .inr (2, [.ref xa, .ref ya, .int (nI n)])), (xa, .inl (cI, 20, .inl x)), (ya, .inl (cI, 20, .inl y)), (ra, .inl (cI, 105, .inl (fun j => nI (R.1 j)))), (sa, .inl (cI, 36, .inl (fun j => nI (R.2.1 j)))), (oa, .inl (cI, 400, .inl R.2.2.1))]) 0 0 (q_in [(m0, .inr (1, [.ref s0, .ref g0, .ref ra, .ref sa, .ref oa, .int (nI q), .ref ma, .int rc])), (g0, .inr (0, [.int fx, .int fy, .long ax, .long ay, .long sp])), (s0, .inr (2, [.ref xa, .ref ya, .int (nI n)])), (xa, .inl (cI, 20, .inl x)), (ya, .inl (cI, 20, .inl y)), (ra, .inl (cI, 105, .inl (fun j => nI (rg j)))), (sa, .inl (cI, 36, .inl (fun j => nI (sr j)))), (oa, .inl (cI, 400, .inl ow))]) := by
  refine Met.ofW (cc := cX1_addCell) (maxL := 5) (ret := none) (by decide) rfl ?_
  intro p e s m args below meth c s₁ B hml hv
  obtain ⟨rfl, hP, hK, hD0⟩ := hv
  have hx := B.exec
  have hb := B.bytes
  have hr := B.returns
  have hts := atoms_spec (ws := wsX1_addCell) B.pre
  have hown : s.vm.findClass RX1 = some m.cls := findClass_of_methodNamed B.named
  have hlocks := B.notSynchronized
  have hD := q_inD hD0
  generalize hAe : q_in [(m0, .inr (1, [.ref s0, .ref g0, .ref ra, .ref sa, .ref oa, .int (nI q), .ref ma, .int rc])), (g0, .inr (0, [.int fx, .int fy, .long ax, .long ay, .long sp])), (s0, .inr (2, [.ref xa, .ref ya, .int (nI n)])), (xa, .inl (cI, 20, .inl x)), (ya, .inl (cI, 20, .inl y)), (ra, .inl (cI, 105, .inl (fun j => nI (rg j)))), (sa, .inl (cI, 36, .inl (fun j => nI (sr j)))), (oa, .inl (cI, 400, .inl ow))] = A at hD ⊢
  have hS : va_S A s.heap s.heap [] := va_S.rf
  have hP : va_P (dC, dI) vwCl [(m0, .inr (1, [.ref s0, .ref g0, .ref ra, .ref sa, .ref oa, .int (nI q), .ref ma, .int rc])), (g0, .inr (0, [.int fx, .int fy, .long ax, .long ay, .long sp])), (s0, .inr (2, [.ref xa, .ref ya, .int (nI n)])), (xa, .inl (cI, 20, .inl x)), (ya, .inl (cI, 20, .inl y)), (ra, .inl (cI, 105, .inl (fun j => nI (rg j)))), (sa, .inl (cI, 36, .inl (fun j => nI (sr j)))), (oa, .inl (cI, 400, .inl ow))] s.heap := hP
  have hl := lv_entry ([.ref m0, .int (nI a)]) (n := 5) (Nat.le_of_ble_eq_true rfl)
  rw [lg_entry_eq]
  generalize (lg_sl ([.ref m0, .int (nI a)]) ++ List.replicate (5 - (lg_sl ([.ref m0, .int (nI a)])).length) Slot.unset).toArray = ls at hl ⊢
  have hl : lv_has ls 5 [(0, .ref m0), (1, .int (nI a))] := hl
  refine lv_aload_n hx hb dX1_addCell_0 rfl (lv_at hl 0 rfl) ?_
  refine va_get (D := (dC, dI)) (ci := 1) (v := .int (nI q)) (C := RX1) (T := TX1) (N := 8) hx hb hts (by decide +kernel) hown hK hP 0 rfl rfl 5 (by decide) (hts (.fieldLink RX1 28 "CircleCells$Mosaic" "cellCount" "I") (by decide +kernel)) (fun _ h9 => h9) rfl dX1_addCell_1 ?_
  refine lv_bipush (v := nI 35) hx hb dX1_addCell_4 (by decide) ?_
  refine q_icmp_lt (tgt := 10) (by omega) (by omega) hx hb dX1_addCell_6 (by decide) (fun c6 => ?_) (fun c6 => ?_)
  · rw [j_add, if_pos c6] at hR
    refine lv_aload_n hx hb dX1_addCell_10 rfl (lv_at hl 0 rfl) ?_
    refine va_get (D := (dC, dI)) (ci := 1) (v := .ref sa) (C := RX1) (T := TX1) (N := 8) hx hb hts (by decide +kernel) hown hK hP 0 rfl rfl 3 (by decide) (hts (.fieldLink RX1 22 "CircleCells$Mosaic" "start" "[I") (by decide +kernel)) (fun _ h9 => h9) rfl dX1_addCell_11 ?_
    refine lv_aload_n hx hb dX1_addCell_14 rfl (lv_at hl 0 rfl) ?_
    refine va_get (D := (dC, dI)) (ci := 1) (v := .int (nI q)) (C := RX1) (T := TX1) (N := 8) hx hb hts (by decide +kernel) hown hK hP 0 rfl rfl 5 (by decide) (hts (.fieldLink RX1 28 "CircleCells$Mosaic" "cellCount" "I") (by decide +kernel)) (fun _ h9 => h9) rfl dX1_addCell_15 ?_
    refine q_iald hx hb hK hP 6 0 rfl rfl (q) rfl (by omega) (by decide) dX1_addCell_18 ?_
    refine lv_istore_n (lv' := [(2, .int (nI (sr q))), (0, .ref m0), (1, .int (nI a))]) hx hb dX1_addCell_19 rfl hl (by decide) rfl (fun ls hl => ?_)
    refine lv_iload_n hx hb dX1_addCell_20 rfl (lv_at hl 0 rfl) ?_
    refine lv_istore_n (lv' := [(3, .int (nI (sr q))), (2, .int (nI (sr q))), (0, .ref m0), (1, .int (nI a))]) hx hb dX1_addCell_21 rfl hl (by decide) rfl (fun ls hl => ?_)
    refine lv_iload_n hx hb dX1_addCell_22 rfl (lv_at hl 3 rfl) ?_
    refine lv_istore (lv' := [(4, .int (nI a)), (3, .int (nI (sr q))), (2, .int (nI (sr q))), (0, .ref m0), (1, .int (nI a))]) hx hb dX1_addCell_23 hl (by decide) rfl (fun ls hl => ?_)
    have loop : ∀ (f : Nat) (rg : Nat → Nat) (en : Nat) (k : Nat) (R : (Nat → Nat) × (Nat → Nat) × (Nat → Int32) × Nat) (H : Heap) (locs : List Loc) (ls : Array Slot), (k ≤ n) → (n + 1 ≤ k + f) → (sr q ≤ en) → (en ≤ 105) → (∀ j, rg j < 20) → j_fin sr ow q (j_addl x y (fx, fy, ax, ay, sp) n (sr q) rg en k) = R → va_P (dC, dI) vwCl [(m0, .inr (1, [.ref s0, .ref g0, .ref ra, .ref sa, .ref oa, .int (nI q), .ref ma, .int rc])), (g0, .inr (0, [.int fx, .int fy, .long ax, .long ay, .long sp])), (s0, .inr (2, [.ref xa, .ref ya, .int (nI n)])), (xa, .inl (cI, 20, .inl x)), (ya, .inl (cI, 20, .inl y)), (ra, .inl (cI, 105, .inl (fun j => nI (rg j)))), (sa, .inl (cI, 36, .inl (fun j => nI (sr j)))), (oa, .inl (cI, 400, .inl ow))] H → va_D A [(m0, .inr (1, [.ref s0, .ref g0, .ref ra, .ref sa, .ref oa, .int (nI q), .ref ma, .int rc])), (g0, .inr (0, [.int fx, .int fy, .long ax, .long ay, .long sp])), (s0, .inr (2, [.ref xa, .ref ya, .int (nI n)])), (xa, .inl (cI, 20, .inl x)), (ya, .inl (cI, 20, .inl y)), (ra, .inl (cI, 105, .inl (fun j => nI (rg j)))), (sa, .inl (cI, 36, .inl (fun j => nI (sr j)))), (oa, .inl (cI, 400, .inl ow))] → va_S A s.heap H locs → lv_has ls 5 [(0, .ref m0), (1, .int (nI a)), (2, .int (nI (sr q))), (3, .int (nI en)), (4, .int (nI k))] → W p l e (headSpec wsX1_addCell ({ frames := 3, cells := 0, slots := 0, locals := 71 })).room s m ([.ref m0, .int (nI a)] : List Value).toArray below meth c H locs 0 0 (MQ below (q_Qm (dC, dI) A none [(m0, .inr (1, [.ref s0, .ref g0, .ref ra, .ref sa, .ref oa, .int (nI R.2.2.2), .ref ma, .int rc])), (g0, .inr (0, [.int fx, .int fy, .long ax, .long ay, .long sp])), (s0, .inr (2, [.ref xa, .ref ya, .int (nI n)])), (xa, .inl (cI, 20, .inl x)), (ya, .inl (cI, 20, .inl y)), (ra, .inl (cI, 105, .inl (fun j => nI (R.1 j)))), (sa, .inl (cI, 36, .inl (fun j => nI (R.2.1 j)))), (oa, .inl (cI, 400, .inl R.2.2.1))]) ([.ref m0, .int (nI a)] : List Value).toArray s 0 0 A) (F0 m 25 ls []) := by
      intro f
      induction f with
      | zero =>
        intro rg en k R H locs ls h1 h2 h3 h4 h5
        omega
      | succ f ih_loop =>
        intro rg en k R H locs ls h1 h2 h3 h4 h5 hF hP hD hS hl
        refine lv_iload hx hb dX1_addCell_25 (lv_at hl 4 rfl) ?_
        refine lv_aload_n hx hb dX1_addCell_27 rfl (lv_at hl 0 rfl) ?_
        refine va_get (D := (dC, dI)) (ci := 1) (v := .ref s0) (C := RX1) (T := TX1) (N := 8) hx hb hts (by decide +kernel) hown hK hP 0 rfl rfl 0 (by decide) (hts (.fieldLink RX1 38 "CircleCells$Mosaic" "sites" "LCircleCells$Sites;") (by decide +kernel)) (fun _ h9 => h9) rfl dX1_addCell_28 ?_
        refine va_get (D := (dC, dI)) (ci := 2) (v := .int (nI n)) (C := RX2) (T := TX2) (N := 3) hx hb hts (by decide +kernel) hown hK hP 2 rfl rfl 2 (by decide) (hts (.fieldLink RX1 48 "CircleCells$Sites" "size" "I") (by decide +kernel)) (fun _ h9 => h9) rfl dX1_addCell_31 ?_
        refine q_icmp_ge (tgt := 71) (by omega) (by omega) hx hb dX1_addCell_34 (by decide) (fun c34 => ?_) (fun c34 => ?_)
        · rw [j_addl, if_neg (by omega)] at hF
          have hF : (rg, updN sr (q + 1) en, j_claim rg (updN sr (q + 1) en) q ow 0, q + 1) = R := hF
          refine lv_aload_n hx hb dX1_addCell_71 rfl (lv_at hl 0 rfl) ?_
          refine va_get (D := (dC, dI)) (ci := 1) (v := .ref sa) (C := RX1) (T := TX1) (N := 8) hx hb hts (by decide +kernel) hown hK hP 0 rfl rfl 3 (by decide) (hts (.fieldLink RX1 22 "CircleCells$Mosaic" "start" "[I") (by decide +kernel)) (fun _ h9 => h9) rfl dX1_addCell_72 ?_
          refine lv_aload_n hx hb dX1_addCell_75 rfl (lv_at hl 0 rfl) ?_
          refine va_get (D := (dC, dI)) (ci := 1) (v := .int (nI q)) (C := RX1) (T := TX1) (N := 8) hx hb hts (by decide +kernel) hown hK hP 0 rfl rfl 5 (by decide) (hts (.fieldLink RX1 28 "CircleCells$Mosaic" "cellCount" "I") (by decide +kernel)) (fun _ h9 => h9) rfl dX1_addCell_76 ?_
          refine lv_iconst (v := nI 1) hx hb dX1_addCell_79 (by decide) ?_
          refine q_iadd hx hb dX1_addCell_80 ?_
          refine lv_iload_n hx hb dX1_addCell_81 rfl (lv_at hl 3 rfl) ?_
          refine q_iast (ws' := [(m0, .inr (1, [.ref s0, .ref g0, .ref ra, .ref sa, .ref oa, .int (nI q), .ref ma, .int rc])), (g0, .inr (0, [.int fx, .int fy, .long ax, .long ay, .long sp])), (s0, .inr (2, [.ref xa, .ref ya, .int (nI n)])), (xa, .inl (cI, 20, .inl x)), (ya, .inl (cI, 20, .inl y)), (ra, .inl (cI, 105, .inl (fun j => nI (rg j)))), (sa, .inl (cI, 36, .inl (fun j => nI ((updN sr (q + 1) en) j)))), (oa, .inl (cI, 400, .inl ow))]) hx hb hK hP hD hS 6 0 rfl rfl (q + 1) rfl (by omega) (by decide) dX1_addCell_82 (by rw [upd_nI]; rfl) (fun H locs hP hD hS => ?_)
          refine lv_aload_n hx hb dX1_addCell_83 rfl (lv_at hl 0 rfl) ?_
          refine lv_aload_n hx hb dX1_addCell_84 rfl (lv_at hl 0 rfl) ?_
          refine va_get (D := (dC, dI)) (ci := 1) (v := .int (nI q)) (C := RX1) (T := TX1) (N := 8) hx hb hts (by decide +kernel) hown hK hP 0 rfl rfl 5 (by decide) (hts (.fieldLink RX1 28 "CircleCells$Mosaic" "cellCount" "I") (by decide +kernel)) (fun _ h9 => h9) rfl dX1_addCell_85 ?_
          obtain ⟨o2, ho2⟩ : ∃ r : Nat → Int32, j_claim rg (updN sr (q + 1) en) q ow 0 = r := ⟨_, rfl⟩
          refine q_mV (wc' := [(m0, .inr (1, [.ref s0, .ref g0, .ref ra, .ref sa, .ref oa, .int (nI q), .ref ma, .int rc])), (ra, .inl (cI, 105, .inl (fun j => nI (rg j)))), (sa, .inl (cI, 36, .inl (fun j => nI ((updN sr (q + 1) en) j)))), (oa, .inl (cI, 400, .inl o2))]) (wsN := [(m0, .inr (1, [.ref s0, .ref g0, .ref ra, .ref sa, .ref oa, .int (nI q), .ref ma, .int rc])), (g0, .inr (0, [.int fx, .int fy, .long ax, .long ay, .long sp])), (s0, .inr (2, [.ref xa, .ref ya, .int (nI n)])), (xa, .inl (cI, 20, .inl x)), (ya, .inl (cI, 20, .inl y)), (ra, .inl (cI, 105, .inl (fun j => nI (rg j)))), (sa, .inl (cI, 36, .inl (fun j => nI ((updN sr (q + 1) en) j)))), (oa, .inl (cI, 400, .inl o2))]) (As := [.int (nI q)]) (rest := []) ⟨hx, hb, hml, hown, hts⟩ (c_X1_claimSides l dC dI m0 s0 g0 ra sa oa ma cI (nI q) rc rg (updN sr (q + 1) en) ow q (by omega) (by rw [updN_s, updN_n (by omega)]; omega) (by rw [updN_s]; omega) h5 o2 ho2) (cwV 1 hts gX1_addCell_X1_claimSides rfl rfl rfl (by decide +kernel) ⟨Nat.le_of_ble_eq_true rfl, Nat.le_of_ble_eq_true rfl⟩) hK hP hD hS [0, 5, 6, 7] [0] 1 0 rfl rfl rfl rfl rfl rfl rfl rfl rfl hl.1 rfl (Nat.le_of_ble_eq_true rfl) ⟨Nat.zero_le _, Nat.zero_le _⟩ dX1_addCell_88 rfl (fun H locs hP hD hS => ?_)
          refine W.eq (g2 := F0 m 91 ls []) rfl ?_
          rw [ho2] at hF
          subst hF
          refine lv_aload_n hx hb dX1_addCell_91 rfl (lv_at hl 0 rfl) ?_
          refine lv_dup hx hb dX1_addCell_92 rfl ?_
          refine va_get (D := (dC, dI)) (ci := 1) (v := .int (nI q)) (C := RX1) (T := TX1) (N := 8) hx hb hts (by decide +kernel) hown hK hP 0 rfl rfl 5 (by decide) (hts (.fieldLink RX1 28 "CircleCells$Mosaic" "cellCount" "I") (by decide +kernel)) (fun _ h9 => h9) rfl dX1_addCell_93 ?_
          refine lv_iconst (v := nI 1) hx hb dX1_addCell_96 (by decide) ?_
          refine q_iadd hx hb dX1_addCell_97 ?_
          refine va_put (D := (dC, dI)) (ci := 1) (v := .int (nI (q + 1))) (ty := .int) (C := RX1) (T := TX1) (N := 8) hx hb hts (by decide +kernel) tyX1 tyX1_ok nmX1 hown hK hP hD hS 0 rfl rfl 5 (by decide) (hts (.fieldLink RX1 28 "CircleCells$Mosaic" "cellCount" "I") (by decide +kernel)) (fun _ h9 => h9) rfl (by decide +kernel) rfl rfl (Nat.le_of_ble_eq_true rfl) dX1_addCell_98 (fun H locs hP hD hS => ?_)
          have hP : va_P (dC, dI) vwCl [(m0, .inr (1, [.ref s0, .ref g0, .ref ra, .ref sa, .ref oa, .int (nI (q + 1)), .ref ma, .int rc])), (g0, .inr (0, [.int fx, .int fy, .long ax, .long ay, .long sp])), (s0, .inr (2, [.ref xa, .ref ya, .int (nI n)])), (xa, .inl (cI, 20, .inl x)), (ya, .inl (cI, 20, .inl y)), (ra, .inl (cI, 105, .inl (fun j => nI (rg j)))), (sa, .inl (cI, 36, .inl (fun j => nI ((updN sr (q + 1) en) j)))), (oa, .inl (cI, 400, .inl o2))] H := hP
          have hD : va_D A [(m0, .inr (1, [.ref s0, .ref g0, .ref ra, .ref sa, .ref oa, .int (nI (q + 1)), .ref ma, .int rc])), (g0, .inr (0, [.int fx, .int fy, .long ax, .long ay, .long sp])), (s0, .inr (2, [.ref xa, .ref ya, .int (nI n)])), (xa, .inl (cI, 20, .inl x)), (ya, .inl (cI, 20, .inl y)), (ra, .inl (cI, 105, .inl (fun j => nI (rg j)))), (sa, .inl (cI, 36, .inl (fun j => nI ((updN sr (q + 1) en) j)))), (oa, .inl (cI, 400, .inl o2))] := hD
          exact W.vret hx hb hr (q_retm hP hS) hS.2.2 dX1_addCell_101
        · rw [j_addl, if_pos c34] at hF
          refine lv_iload_n hx hb dX1_addCell_37 rfl (lv_at hl 3 rfl) ?_
          refine lv_bipush (v := nI 105) hx hb dX1_addCell_38 (by decide) ?_
          refine q_icmp_ge (tgt := 71) (by omega) (by omega) hx hb dX1_addCell_40 (by decide) (fun c40 => ?_) (fun c40 => ?_)
          · rw [if_pos c40] at hF
            have hF : (rg, updN sr (q + 1) en, j_claim rg (updN sr (q + 1) en) q ow 0, q + 1) = R := hF
            refine lv_aload_n hx hb dX1_addCell_71 rfl (lv_at hl 0 rfl) ?_
            refine va_get (D := (dC, dI)) (ci := 1) (v := .ref sa) (C := RX1) (T := TX1) (N := 8) hx hb hts (by decide +kernel) hown hK hP 0 rfl rfl 3 (by decide) (hts (.fieldLink RX1 22 "CircleCells$Mosaic" "start" "[I") (by decide +kernel)) (fun _ h9 => h9) rfl dX1_addCell_72 ?_
            refine lv_aload_n hx hb dX1_addCell_75 rfl (lv_at hl 0 rfl) ?_
            refine va_get (D := (dC, dI)) (ci := 1) (v := .int (nI q)) (C := RX1) (T := TX1) (N := 8) hx hb hts (by decide +kernel) hown hK hP 0 rfl rfl 5 (by decide) (hts (.fieldLink RX1 28 "CircleCells$Mosaic" "cellCount" "I") (by decide +kernel)) (fun _ h9 => h9) rfl dX1_addCell_76 ?_
            refine lv_iconst (v := nI 1) hx hb dX1_addCell_79 (by decide) ?_
            refine q_iadd hx hb dX1_addCell_80 ?_
            refine lv_iload_n hx hb dX1_addCell_81 rfl (lv_at hl 3 rfl) ?_
            refine q_iast (ws' := [(m0, .inr (1, [.ref s0, .ref g0, .ref ra, .ref sa, .ref oa, .int (nI q), .ref ma, .int rc])), (g0, .inr (0, [.int fx, .int fy, .long ax, .long ay, .long sp])), (s0, .inr (2, [.ref xa, .ref ya, .int (nI n)])), (xa, .inl (cI, 20, .inl x)), (ya, .inl (cI, 20, .inl y)), (ra, .inl (cI, 105, .inl (fun j => nI (rg j)))), (sa, .inl (cI, 36, .inl (fun j => nI ((updN sr (q + 1) en) j)))), (oa, .inl (cI, 400, .inl ow))]) hx hb hK hP hD hS 6 0 rfl rfl (q + 1) rfl (by omega) (by decide) dX1_addCell_82 (by rw [upd_nI]; rfl) (fun H locs hP hD hS => ?_)
            refine lv_aload_n hx hb dX1_addCell_83 rfl (lv_at hl 0 rfl) ?_
            refine lv_aload_n hx hb dX1_addCell_84 rfl (lv_at hl 0 rfl) ?_
            refine va_get (D := (dC, dI)) (ci := 1) (v := .int (nI q)) (C := RX1) (T := TX1) (N := 8) hx hb hts (by decide +kernel) hown hK hP 0 rfl rfl 5 (by decide) (hts (.fieldLink RX1 28 "CircleCells$Mosaic" "cellCount" "I") (by decide +kernel)) (fun _ h9 => h9) rfl dX1_addCell_85 ?_
            obtain ⟨o2, ho2⟩ : ∃ r : Nat → Int32, j_claim rg (updN sr (q + 1) en) q ow 0 = r := ⟨_, rfl⟩
            refine q_mV (wc' := [(m0, .inr (1, [.ref s0, .ref g0, .ref ra, .ref sa, .ref oa, .int (nI q), .ref ma, .int rc])), (ra, .inl (cI, 105, .inl (fun j => nI (rg j)))), (sa, .inl (cI, 36, .inl (fun j => nI ((updN sr (q + 1) en) j)))), (oa, .inl (cI, 400, .inl o2))]) (wsN := [(m0, .inr (1, [.ref s0, .ref g0, .ref ra, .ref sa, .ref oa, .int (nI q), .ref ma, .int rc])), (g0, .inr (0, [.int fx, .int fy, .long ax, .long ay, .long sp])), (s0, .inr (2, [.ref xa, .ref ya, .int (nI n)])), (xa, .inl (cI, 20, .inl x)), (ya, .inl (cI, 20, .inl y)), (ra, .inl (cI, 105, .inl (fun j => nI (rg j)))), (sa, .inl (cI, 36, .inl (fun j => nI ((updN sr (q + 1) en) j)))), (oa, .inl (cI, 400, .inl o2))]) (As := [.int (nI q)]) (rest := []) ⟨hx, hb, hml, hown, hts⟩ (c_X1_claimSides l dC dI m0 s0 g0 ra sa oa ma cI (nI q) rc rg (updN sr (q + 1) en) ow q (by omega) (by rw [updN_s, updN_n (by omega)]; omega) (by rw [updN_s]; omega) h5 o2 ho2) (cwV 1 hts gX1_addCell_X1_claimSides rfl rfl rfl (by decide +kernel) ⟨Nat.le_of_ble_eq_true rfl, Nat.le_of_ble_eq_true rfl⟩) hK hP hD hS [0, 5, 6, 7] [0] 1 0 rfl rfl rfl rfl rfl rfl rfl rfl rfl hl.1 rfl (Nat.le_of_ble_eq_true rfl) ⟨Nat.zero_le _, Nat.zero_le _⟩ dX1_addCell_88 rfl (fun H locs hP hD hS => ?_)
            refine W.eq (g2 := F0 m 91 ls []) rfl ?_
            rw [ho2] at hF
            subst hF
            refine lv_aload_n hx hb dX1_addCell_91 rfl (lv_at hl 0 rfl) ?_
            refine lv_dup hx hb dX1_addCell_92 rfl ?_
            refine va_get (D := (dC, dI)) (ci := 1) (v := .int (nI q)) (C := RX1) (T := TX1) (N := 8) hx hb hts (by decide +kernel) hown hK hP 0 rfl rfl 5 (by decide) (hts (.fieldLink RX1 28 "CircleCells$Mosaic" "cellCount" "I") (by decide +kernel)) (fun _ h9 => h9) rfl dX1_addCell_93 ?_
            refine lv_iconst (v := nI 1) hx hb dX1_addCell_96 (by decide) ?_
            refine q_iadd hx hb dX1_addCell_97 ?_
            refine va_put (D := (dC, dI)) (ci := 1) (v := .int (nI (q + 1))) (ty := .int) (C := RX1) (T := TX1) (N := 8) hx hb hts (by decide +kernel) tyX1 tyX1_ok nmX1 hown hK hP hD hS 0 rfl rfl 5 (by decide) (hts (.fieldLink RX1 28 "CircleCells$Mosaic" "cellCount" "I") (by decide +kernel)) (fun _ h9 => h9) rfl (by decide +kernel) rfl rfl (Nat.le_of_ble_eq_true rfl) dX1_addCell_98 (fun H locs hP hD hS => ?_)
            have hP : va_P (dC, dI) vwCl [(m0, .inr (1, [.ref s0, .ref g0, .ref ra, .ref sa, .ref oa, .int (nI (q + 1)), .ref ma, .int rc])), (g0, .inr (0, [.int fx, .int fy, .long ax, .long ay, .long sp])), (s0, .inr (2, [.ref xa, .ref ya, .int (nI n)])), (xa, .inl (cI, 20, .inl x)), (ya, .inl (cI, 20, .inl y)), (ra, .inl (cI, 105, .inl (fun j => nI (rg j)))), (sa, .inl (cI, 36, .inl (fun j => nI ((updN sr (q + 1) en) j)))), (oa, .inl (cI, 400, .inl o2))] H := hP
            have hD : va_D A [(m0, .inr (1, [.ref s0, .ref g0, .ref ra, .ref sa, .ref oa, .int (nI (q + 1)), .ref ma, .int rc])), (g0, .inr (0, [.int fx, .int fy, .long ax, .long ay, .long sp])), (s0, .inr (2, [.ref xa, .ref ya, .int (nI n)])), (xa, .inl (cI, 20, .inl x)), (ya, .inl (cI, 20, .inl y)), (ra, .inl (cI, 105, .inl (fun j => nI (rg j)))), (sa, .inl (cI, 36, .inl (fun j => nI ((updN sr (q + 1) en) j)))), (oa, .inl (cI, 400, .inl o2))] := hD
            exact W.vret hx hb hr (q_retm hP hS) hS.2.2 dX1_addCell_101
          · rw [if_neg (by omega)] at hF
            refine lv_aload_n hx hb dX1_addCell_43 rfl (lv_at hl 0 rfl) ?_
            refine lv_iload hx hb dX1_addCell_44 (lv_at hl 4 rfl) ?_
            refine q_cV (As := [.int (nI k)]) (rest := []) ⟨hx, hb, hml, hown, hts⟩ (c_X1_powerOf l dC dI m0 s0 g0 ra sa oa ma cI xa ya (nI n) (nI q) rc x y fx fy ax ay sp k (by omega)) (cwV 1 hts gX1_addCell_X1_powerOf rfl rfl rfl (by decide +kernel) ⟨Nat.le_of_ble_eq_true rfl, Nat.le_of_ble_eq_true rfl⟩) (q_pV hK hP [0, 1, 2, 3, 4] [0] 1 0 rfl rfl rfl rfl rfl rfl) rfl hl.1 rfl (Nat.le_of_ble_eq_true rfl) ⟨Nat.zero_le _, Nat.zero_le _⟩ dX1_addCell_46 ?_
            refine lv_lconst (v := 0) hx hb dX1_addCell_49 (by decide) ?_
            refine q_lcmp_ne (tgt := 65) hx hb dX1_addCell_50 dX1_addCell_51 (by decide) (fun c51 => ?_) (fun c51 => ?_)
            · rw [if_pos (show ¬ j_powC (fx, fy, ax, ay, sp) (x k) (y k) = 0 from c51)] at hF
              refine lv_iinc (v := nI (k + 1)) (lv' := [(4, .int (nI (k + 1))), (0, .ref m0), (1, .int (nI a)), (2, .int (nI (sr q))), (3, .int (nI en))]) hx hb dX1_addCell_65 hl (k := 4) rfl (by rw [show Int32.ofInt 1 = 1 from rfl]; exact nI_1 _) (by decide) rfl (fun ls hl => ?_)
              refine lv_goto (tgt := 25) hx hb dX1_addCell_68 (by decide) ?_
              exact ih_loop rg en (k + 1) R H locs ls (by omega) (by omega) (by omega) (by omega) (by first | exact h5 | (rw [← hr3]; exact j_ins_lt (by omega) _ _ h5)) hF hP hD hS (lv_sub hl [1, 2, 3, 4, 0] rfl)
            · rw [if_neg (fun h => h (show j_powC (fx, fy, ax, ay, sp) (x k) (y k) = 0 from c51))] at hF
              refine lv_aload_n hx hb dX1_addCell_54 rfl (lv_at hl 0 rfl) ?_
              refine lv_iload_n hx hb dX1_addCell_55 rfl (lv_at hl 2 rfl) ?_
              refine lv_iload_n hx hb dX1_addCell_56 rfl (lv_at hl 3 rfl) ?_
              refine lv_iload hx hb dX1_addCell_57 (lv_at hl 4 rfl) ?_
              obtain ⟨r3, hr3⟩ : ∃ r : Nat → Nat, j_ins x y (sr q) k rg en = r := ⟨_, rfl⟩
              refine q_mV (wc' := [(m0, .inr (1, [.ref s0, .ref g0, .ref ra, .ref sa, .ref oa, .int (nI q), .ref ma, .int rc])), (ra, .inl (cI, 105, .inl (fun j => nI (r3 j)))), (s0, .inr (2, [.ref xa, .ref ya, .int (nI n)])), (xa, .inl (cI, 20, .inl x)), (ya, .inl (cI, 20, .inl y))]) (wsN := [(m0, .inr (1, [.ref s0, .ref g0, .ref ra, .ref sa, .ref oa, .int (nI q), .ref ma, .int rc])), (g0, .inr (0, [.int fx, .int fy, .long ax, .long ay, .long sp])), (s0, .inr (2, [.ref xa, .ref ya, .int (nI n)])), (xa, .inl (cI, 20, .inl x)), (ya, .inl (cI, 20, .inl y)), (ra, .inl (cI, 105, .inl (fun j => nI (r3 j)))), (sa, .inl (cI, 36, .inl (fun j => nI (sr j)))), (oa, .inl (cI, 400, .inl ow))]) (As := [.int (nI (sr q)), .int (nI en), .int (nI k)]) (rest := []) ⟨hx, hb, hml, hown, hts⟩ (c_X1_insertRound l dC dI m0 s0 g0 ra sa oa ma cI xa ya (nI q) rc x y (nI n) rg (sr q) en k (by omega) (by omega) (by omega) h5 r3 hr3) (cwV 3 hts gX1_addCell_X1_insertRound rfl rfl rfl (by decide +kernel) ⟨Nat.le_of_ble_eq_true rfl, Nat.le_of_ble_eq_true rfl⟩) hK hP hD hS [0, 5, 2, 3, 4] [0] 1 0 rfl rfl rfl rfl rfl rfl rfl rfl rfl hl.1 rfl (Nat.le_of_ble_eq_true rfl) ⟨Nat.zero_le _, Nat.zero_le _⟩ dX1_addCell_59 rfl (fun H locs hP hD hS => ?_)
              refine W.eq (g2 := F0 m 62 ls []) rfl ?_
              rw [hr3] at hF
              refine lv_iinc (v := nI (en + 1)) (lv' := [(3, .int (nI (en + 1))), (0, .ref m0), (1, .int (nI a)), (2, .int (nI (sr q))), (4, .int (nI k))]) hx hb dX1_addCell_62 hl (k := 3) rfl (by rw [show Int32.ofInt 1 = 1 from rfl]; exact nI_1 _) (by decide) rfl (fun ls hl => ?_)
              refine lv_iinc (v := nI (k + 1)) (lv' := [(4, .int (nI (k + 1))), (3, .int (nI (en + 1))), (0, .ref m0), (1, .int (nI a)), (2, .int (nI (sr q)))]) hx hb dX1_addCell_65 hl (k := 4) rfl (by rw [show Int32.ofInt 1 = 1 from rfl]; exact nI_1 _) (by decide) rfl (fun ls hl => ?_)
              refine lv_goto (tgt := 25) hx hb dX1_addCell_68 (by decide) ?_
              exact ih_loop r3 (en + 1) (k + 1) R H locs ls (by omega) (by omega) (by omega) (by omega) (by first | exact h5 | (rw [← hr3]; exact j_ins_lt (by omega) _ _ h5)) hF hP hD hS (lv_sub hl [2, 3, 4, 1, 0] rfl)
    exact loop (n + 1) rg (sr q) a R _ _ ls (by omega) (by omega) (by omega) (by omega) lr hR hP hD hS (lv_sub hl [3, 4, 2, 1, 0] rfl)
  · rw [j_add, if_neg (by omega)] at hR
    subst hR
    exact W.vret hx hb hr (q_retm hP hS) hS.2.2 dX1_addCell_9
set_option maxHeartbeats 4000000 in
set_option maxRecDepth 100000 in
theorem c_X1_walkRim (l : Launch) (dC : Nat → ClassId) (dI : Nat → Nat → Nat) (m0 s0 g0 ra sa oa ma : Nat) (cI : ClassId) (xa ya : Nat) (cc rc : Int32) (x y : Nat → Int32) (ow rm : Nat → Int32) (n : Nat) (ln : n ≤ 20) (R : (Nat → Int32) × Nat) (hR : j_rim ow n (j_frim ow n 0) rm 0 (j_frim ow n 0) = R) : Met l yX1_walkRim wsX1_walkRim ({ frames := 3, cells := 0, slots := 0, locals := 64 }) (q_Pm (dC, dI) [.ref m0] [(m0, .inr (1, [.ref s0, .ref g0, .ref ra, .ref sa, .ref oa, .int cc, .ref ma, .int rc])), (ma, .inl (cI, 20, .inl rm)), (oa, .inl (cI, 400, .inl ow)), (s0, .inr (2, [.ref xa, .ref ya, .int (nI n)]))] [(cI, .int)]) (q_Qm (dC, dI) (q_in [(m0, .inr (1, [.ref s0, .ref g0, .ref ra, .ref sa, .ref oa, .int cc, .ref ma, .int rc])), (ma, .inl (cI, 20, .inl rm)), (oa, .inl (cI, 400, .inl ow)), (s0, .inr (2, [.ref xa, .ref ya, .int (nI n)]))]) none [(m0, .inr (1, [.ref s0, .ref g0, .ref ra, .ref sa, .ref oa, .int cc, .ref ma, .int (nI R.2)])), (ma, .inl (cI, 20, .inl R.1)), (oa, .inl (cI, 400, .inl ow)), (s0, .inr (2, [.ref xa, .ref ya, .int (nI n)]))]) 0 0 (q_in [(m0, .inr (1, [.ref s0, .ref g0, .ref ra, .ref sa, .ref oa, .int cc, .ref ma, .int rc])), (ma, .inl (cI, 20, .inl rm)), (oa, .inl (cI, 400, .inl ow)), (s0, .inr (2, [.ref xa, .ref ya, .int (nI n)]))]) := by
  refine Met.ofW (cc := cX1_walkRim) (maxL := 4) (ret := none) (by decide) rfl ?_
  intro p e s m args below meth c s₁ B hml hv
  obtain ⟨rfl, hP, hK, hD0⟩ := hv
  have hx := B.exec
  have hb := B.bytes
  have hr := B.returns
  have hts := atoms_spec (ws := wsX1_walkRim) B.pre
  have hown : s.vm.findClass RX1 = some m.cls := findClass_of_methodNamed B.named
  have hlocks := B.notSynchronized
  have hD := q_inD hD0
  generalize hAe : q_in [(m0, .inr (1, [.ref s0, .ref g0, .ref ra, .ref sa, .ref oa, .int cc, .ref ma, .int rc])), (ma, .inl (cI, 20, .inl rm)), (oa, .inl (cI, 400, .inl ow)), (s0, .inr (2, [.ref xa, .ref ya, .int (nI n)]))] = A at hD ⊢
  have hS : va_S A s.heap s.heap [] := va_S.rf
  have hP : va_P (dC, dI) vwCl [(m0, .inr (1, [.ref s0, .ref g0, .ref ra, .ref sa, .ref oa, .int cc, .ref ma, .int rc])), (ma, .inl (cI, 20, .inl rm)), (oa, .inl (cI, 400, .inl ow)), (s0, .inr (2, [.ref xa, .ref ya, .int (nI n)]))] s.heap := hP
  have hl := lv_entry ([.ref m0]) (n := 4) (Nat.le_of_ble_eq_true rfl)
  rw [lg_entry_eq]
  generalize (lg_sl ([.ref m0]) ++ List.replicate (4 - (lg_sl ([.ref m0])).length) Slot.unset).toArray = ls at hl ⊢
  have hl : lv_has ls 4 [(0, .ref m0)] := hl
  refine lv_aload_n hx hb dX1_walkRim_0 rfl (lv_at hl 0 rfl) ?_
  refine lv_iconst (v := nI 0) hx hb dX1_walkRim_1 (by decide) ?_
  refine va_put (D := (dC, dI)) (ci := 1) (v := .int (nI 0)) (ty := .int) (C := RX1) (T := TX1) (N := 8) hx hb hts (by decide +kernel) tyX1 tyX1_ok nmX1 hown hK hP hD hS 0 rfl rfl 7 (by decide) (hts (.fieldLink RX1 35 "CircleCells$Mosaic" "rimCount" "I") (by decide +kernel)) (fun _ h9 => h9) rfl (by decide +kernel) rfl rfl (Nat.le_of_ble_eq_true rfl) dX1_walkRim_2 (fun H locs hP hD hS => ?_)
  have hP : va_P (dC, dI) vwCl [(m0, .inr (1, [.ref s0, .ref g0, .ref ra, .ref sa, .ref oa, .int cc, .ref ma, .int (nI 0)])), (ma, .inl (cI, 20, .inl rm)), (oa, .inl (cI, 400, .inl ow)), (s0, .inr (2, [.ref xa, .ref ya, .int (nI n)]))] H := hP
  have hD : va_D A [(m0, .inr (1, [.ref s0, .ref g0, .ref ra, .ref sa, .ref oa, .int cc, .ref ma, .int (nI 0)])), (ma, .inl (cI, 20, .inl rm)), (oa, .inl (cI, 400, .inl ow)), (s0, .inr (2, [.ref xa, .ref ya, .int (nI n)]))] := hD
  refine lv_aload_n hx hb dX1_walkRim_5 rfl (lv_at hl 0 rfl) ?_
  refine q_cV (As := []) (rest := []) ⟨hx, hb, hml, hown, hts⟩ (c_X1_firstOnRim l dC dI m0 s0 g0 ra sa oa ma cI xa ya cc (nI 0) x y ow n (by omega)) (cwV 0 hts gX1_walkRim_X1_firstOnRim rfl rfl rfl (by decide +kernel) ⟨Nat.le_of_ble_eq_true rfl, Nat.le_of_ble_eq_true rfl⟩) (q_pV hK hP [0, 2, 3] [0] 1 0 rfl rfl rfl rfl rfl rfl) rfl hl.1 rfl (Nat.le_of_ble_eq_true rfl) ⟨Nat.zero_le _, Nat.zero_le _⟩ dX1_walkRim_6 ?_
  refine lv_istore_n (lv' := [(1, .int (j_frim ow n 0)), (0, .ref m0)]) hx hb dX1_walkRim_9 rfl hl (by decide) rfl (fun ls hl => ?_)
  refine lv_iload_n hx hb dX1_walkRim_10 rfl (lv_at hl 0 rfl) ?_
  refine lv_istore_n (lv' := [(2, .int (j_frim ow n 0)), (1, .int (j_frim ow n 0)), (0, .ref m0)]) hx hb dX1_walkRim_11 rfl hl (by decide) rfl (fun ls hl => ?_)
  have loop : ∀ (f : Nat) (rm : Nat → Int32) (rc : Nat) (w : Int32) (R : (Nat → Int32) × Nat) (H : Heap) (locs : List Loc) (ls : Array Slot), (rc ≤ 20) → (20 + 1 ≤ rc + f) → (w = -1 ∨ ∃ v, v < n ∧ w = nI v) → j_rim ow n (j_frim ow n 0) rm rc w = R → va_P (dC, dI) vwCl [(m0, .inr (1, [.ref s0, .ref g0, .ref ra, .ref sa, .ref oa, .int cc, .ref ma, .int (nI rc)])), (ma, .inl (cI, 20, .inl rm)), (oa, .inl (cI, 400, .inl ow)), (s0, .inr (2, [.ref xa, .ref ya, .int (nI n)]))] H → va_D A [(m0, .inr (1, [.ref s0, .ref g0, .ref ra, .ref sa, .ref oa, .int cc, .ref ma, .int (nI rc)])), (ma, .inl (cI, 20, .inl rm)), (oa, .inl (cI, 400, .inl ow)), (s0, .inr (2, [.ref xa, .ref ya, .int (nI n)]))] → va_S A s.heap H locs → lv_has ls 4 [(0, .ref m0), (1, .int (j_frim ow n 0)), (2, .int w)] → W p l e (headSpec wsX1_walkRim ({ frames := 3, cells := 0, slots := 0, locals := 64 })).room s m ([.ref m0] : List Value).toArray below meth c H locs 0 0 (MQ below (q_Qm (dC, dI) A none [(m0, .inr (1, [.ref s0, .ref g0, .ref ra, .ref sa, .ref oa, .int cc, .ref ma, .int (nI R.2)])), (ma, .inl (cI, 20, .inl R.1)), (oa, .inl (cI, 400, .inl ow)), (s0, .inr (2, [.ref xa, .ref ya, .int (nI n)]))]) ([.ref m0] : List Value).toArray s 0 0 A) (F0 m 12 ls []) := by
    intro f
    induction f with
    | zero =>
      intro rm rc w R H locs ls h1 h2 hw
      omega
    | succ f ih_loop =>
      intro rm rc w R H locs ls h1 h2 hw hF hP hD hS hl
      refine lv_iload_n hx hb dX1_walkRim_12 rfl (lv_at hl 2 rfl) ?_
      refine lv_iconst (v := (-1)) hx hb dX1_walkRim_13 (by decide) ?_
      refine lv_icmp_eq (tgt := 66) hx hb dX1_walkRim_14 (by decide) (fun c14 => ?_) (fun c14 => ?_)
      · rw [j_rim, if_pos c14] at hF
        subst hF
        exact W.vret hx hb hr (q_retm hP hS) hS.2.2 dX1_walkRim_66
      · rw [j_rim, if_neg c14] at hF
        obtain ⟨v, hv, e9⟩ := hw.resolve_left c14
        subst e9
        refine lv_aload_n hx hb dX1_walkRim_17 rfl (lv_at hl 0 rfl) ?_
        refine va_get (D := (dC, dI)) (ci := 1) (v := .int (nI rc)) (C := RX1) (T := TX1) (N := 8) hx hb hts (by decide +kernel) hown hK hP 0 rfl rfl 7 (by decide) (hts (.fieldLink RX1 35 "CircleCells$Mosaic" "rimCount" "I") (by decide +kernel)) (fun _ h9 => h9) rfl dX1_walkRim_18 ?_
        refine lv_bipush (v := nI 20) hx hb dX1_walkRim_21 (by decide) ?_
        refine q_icmp_ge (tgt := 66) (by omega) (by omega) hx hb dX1_walkRim_23 (by decide) (fun c23 => ?_) (fun c23 => ?_)
        · rw [if_pos c23] at hF
          subst hF
          exact W.vret hx hb hr (q_retm hP hS) hS.2.2 dX1_walkRim_66
        · rw [if_neg (by omega), nI_clamp (by omega)] at hF
          refine lv_aload_n hx hb dX1_walkRim_26 rfl (lv_at hl 0 rfl) ?_
          refine va_get (D := (dC, dI)) (ci := 1) (v := .ref ma) (C := RX1) (T := TX1) (N := 8) hx hb hts (by decide +kernel) hown hK hP 0 rfl rfl 6 (by decide) (hts (.fieldLink RX1 32 "CircleCells$Mosaic" "rim" "[I") (by decide +kernel)) (fun _ h9 => h9) rfl dX1_walkRim_27 ?_
          refine lv_aload_n hx hb dX1_walkRim_30 rfl (lv_at hl 0 rfl) ?_
          refine va_get (D := (dC, dI)) (ci := 1) (v := .int (nI rc)) (C := RX1) (T := TX1) (N := 8) hx hb hts (by decide +kernel) hown hK hP 0 rfl rfl 7 (by decide) (hts (.fieldLink RX1 35 "CircleCells$Mosaic" "rimCount" "I") (by decide +kernel)) (fun _ h9 => h9) rfl dX1_walkRim_31 ?_
          refine lv_iload_n hx hb dX1_walkRim_34 rfl (lv_at hl 2 rfl) ?_
          refine q_iast (ws' := [(m0, .inr (1, [.ref s0, .ref g0, .ref ra, .ref sa, .ref oa, .int cc, .ref ma, .int (nI rc)])), (ma, .inl (cI, 20, .inl (upd rm rc (nI v)))), (oa, .inl (cI, 400, .inl ow)), (s0, .inr (2, [.ref xa, .ref ya, .int (nI n)]))]) hx hb hK hP hD hS 1 0 rfl rfl (rc) rfl (by omega) (by decide) dX1_walkRim_35 rfl (fun H locs hP hD hS => ?_)
          refine lv_aload_n hx hb dX1_walkRim_36 rfl (lv_at hl 0 rfl) ?_
          refine lv_dup hx hb dX1_walkRim_37 rfl ?_
          refine va_get (D := (dC, dI)) (ci := 1) (v := .int (nI rc)) (C := RX1) (T := TX1) (N := 8) hx hb hts (by decide +kernel) hown hK hP 0 rfl rfl 7 (by decide) (hts (.fieldLink RX1 35 "CircleCells$Mosaic" "rimCount" "I") (by decide +kernel)) (fun _ h9 => h9) rfl dX1_walkRim_38 ?_
          refine lv_iconst (v := nI 1) hx hb dX1_walkRim_41 (by decide) ?_
          refine q_iadd hx hb dX1_walkRim_42 ?_
          refine va_put (D := (dC, dI)) (ci := 1) (v := .int (nI (rc + 1))) (ty := .int) (C := RX1) (T := TX1) (N := 8) hx hb hts (by decide +kernel) tyX1 tyX1_ok nmX1 hown hK hP hD hS 0 rfl rfl 7 (by decide) (hts (.fieldLink RX1 35 "CircleCells$Mosaic" "rimCount" "I") (by decide +kernel)) (fun _ h9 => h9) rfl (by decide +kernel) rfl rfl (Nat.le_of_ble_eq_true rfl) dX1_walkRim_43 (fun H locs hP hD hS => ?_)
          have hP : va_P (dC, dI) vwCl [(m0, .inr (1, [.ref s0, .ref g0, .ref ra, .ref sa, .ref oa, .int cc, .ref ma, .int (nI (rc + 1))])), (ma, .inl (cI, 20, .inl (upd rm rc (nI v)))), (oa, .inl (cI, 400, .inl ow)), (s0, .inr (2, [.ref xa, .ref ya, .int (nI n)]))] H := hP
          have hD : va_D A [(m0, .inr (1, [.ref s0, .ref g0, .ref ra, .ref sa, .ref oa, .int cc, .ref ma, .int (nI (rc + 1))])), (ma, .inl (cI, 20, .inl (upd rm rc (nI v)))), (oa, .inl (cI, 400, .inl ow)), (s0, .inr (2, [.ref xa, .ref ya, .int (nI n)]))] := hD
          refine lv_aload_n hx hb dX1_walkRim_46 rfl (lv_at hl 0 rfl) ?_
          refine lv_iload_n hx hb dX1_walkRim_47 rfl (lv_at hl 2 rfl) ?_
          refine q_cV (As := [.int (nI v)]) (rest := []) ⟨hx, hb, hml, hown, hts⟩ (c_X1_nextOnRim l dC dI m0 s0 g0 ra sa oa ma cI xa ya cc (nI (rc + 1)) x y ow n v (by omega) (by omega)) (cwV 1 hts gX1_walkRim_X1_nextOnRim rfl rfl rfl (by decide +kernel) ⟨Nat.le_of_ble_eq_true rfl, Nat.le_of_ble_eq_true rfl⟩) (q_pV hK hP [0, 2, 3] [0] 1 0 rfl rfl rfl rfl rfl rfl) rfl hl.1 rfl (Nat.le_of_ble_eq_true rfl) ⟨Nat.zero_le _, Nat.zero_le _⟩ dX1_walkRim_48 ?_
          refine lv_istore_n (lv' := [(3, .int (j_next ow n v 0)), (0, .ref m0), (1, .int (j_frim ow n 0)), (2, .int (nI v))]) hx hb dX1_walkRim_51 rfl hl (by decide) rfl (fun ls hl => ?_)
          refine lv_iload_n hx hb dX1_walkRim_52 rfl (lv_at hl 0 rfl) ?_
          refine lv_iload_n hx hb dX1_walkRim_53 rfl (lv_at hl 2 rfl) ?_
          refine lv_icmp_ne (tgt := 61) hx hb dX1_walkRim_54 (by decide) (fun c54 => ?_) (fun c54 => ?_)
          · rw [if_neg c54] at hF
            refine lv_iload_n hx hb dX1_walkRim_61 rfl (lv_at hl 0 rfl) ?_
            refine lv_istore_n (lv' := [(2, .int (j_next ow n v 0)), (3, .int (j_next ow n v 0)), (0, .ref m0), (1, .int (j_frim ow n 0))]) hx hb dX1_walkRim_62 rfl hl (by decide) rfl (fun ls hl => ?_)
            refine lv_goto (tgt := 12) hx hb dX1_walkRim_63 (by decide) ?_
            exact ih_loop (upd rm rc (nI v)) (rc + 1) (j_next ow n v 0) R H locs ls (by omega) (by omega) (by first | exact Or.inl rfl | exact j_next_c ow n _ n 0 (by omega)) hF hP hD hS (lv_sub hl [2, 3, 0] rfl)
          · rw [if_pos c54] at hF
            refine lv_iconst (v := (-1)) hx hb dX1_walkRim_57 (by decide) ?_
            refine lv_goto (tgt := 62) hx hb dX1_walkRim_58 (by decide) ?_
            refine lv_istore_n (lv' := [(2, .int (-1)), (3, .int (j_next ow n v 0)), (0, .ref m0), (1, .int (j_frim ow n 0))]) hx hb dX1_walkRim_62 rfl hl (by decide) rfl (fun ls hl => ?_)
            refine lv_goto (tgt := 12) hx hb dX1_walkRim_63 (by decide) ?_
            exact ih_loop (upd rm rc (nI v)) (rc + 1) (-1) R H locs ls (by omega) (by omega) (by first | exact Or.inl rfl | exact j_next_c ow n _ n 0 (by omega)) hF hP hD hS (lv_sub hl [2, 3, 0] rfl)
  exact loop (20 + 1) rm 0 (j_frim ow n 0) R _ _ ls (by omega) (by omega) (j_frim_c ow n n 0 (by omega)) hR hP hD hS (lv_sub hl [2, 1, 0] rfl)
set_option maxHeartbeats 4000000 in
set_option maxRecDepth 100000 in
theorem c_X1_build (l : Launch) (dC : Nat → ClassId) (dI : Nat → Nat → Nat) (m0 s0 g0 ra sa oa ma : Nat) (cI : ClassId) (xa ya : Nat) (rc : Int32) (x y : Nat → Int32) (fx fy : Int32) (ax ay sp : Int64) (rg sr : Nat → Nat) (ow rm : Nat → Int32) (cc : Int32) (n : Nat) (ln : n ≤ 20) (lr : ∀ j, rg j < 20) (ls0 : sr 0 = 0) (R : ((Int32 × Int32 × Int64 × Int64 × Int64) × (Nat → Nat) × (Nat → Nat) × (Nat → Int32) × Nat) × (Nat → Int32) × Nat) (hR : j_tail rm n (j_ba x y n ((fx, fy, ax, ay, sp), rg, sr, j_fill (-1) 400 ow 0, 0) 0) = R) : Met l yX1_build wsX1_build ({ frames := 4, cells := 0, slots := 0, locals := 95 }) (q_Pm (dC, dI) [.ref m0] [(m0, .inr (1, [.ref s0, .ref g0, .ref ra, .ref sa, .ref oa, .int cc, .ref ma, .int rc])), (g0, .inr (0, [.int fx, .int fy, .long ax, .long ay, .long sp])), (s0, .inr (2, [.ref xa, .ref ya, .int (nI n)])), (xa, .inl (cI, 20, .inl x)), (ya, .inl (cI, 20, .inl y)), (ra, .inl (cI, 105, .inl (fun j => nI (rg j)))), (sa, .inl (cI, 36, .inl (fun j => nI (sr j)))), (oa, .inl (cI, 400, .inl ow)), (ma, .inl (cI, 20, .inl rm))] [(cI, .int)]) (q_Qm (dC, dI) (q_in [(m0, .inr (1, [.ref s0, .ref g0, .ref ra, .ref sa, .ref oa, .int cc, .ref ma, .int rc])), (g0, .inr (0, [.int fx, .int fy, .long ax, .long ay, .long sp])), (s0, .inr (2, [.ref xa, .ref ya, .int (nI n)])), (xa, .inl (cI, 20, .inl x)), (ya, .inl (cI, 20, .inl y)), (ra, .inl (cI, 105, .inl (fun j => nI (rg j)))), (sa, .inl (cI, 36, .inl (fun j => nI (sr j)))), (oa, .inl (cI, 400, .inl ow)), (ma, .inl (cI, 20, .inl rm))]) none [(m0, .inr (1, [.ref s0, .ref g0, .ref ra, .ref sa, .ref oa, .int (nI R.1.2.2.2.2), .ref ma, .int (nI R.2.2)])), (g0, .inr (0, [.int R.1.1.1, .int R.1.1.2.1, .long R.1.1.2.2.1, .long R.1.1.2.2.2.1, .long R.1.1.2.2.2.2])), (s0, .inr (2, [.ref xa, .ref ya, .int (nI n)])), (xa, .inl (cI, 20, .inl x)), (ya, .inl (cI, 20, .inl y)), (ra, .inl (cI, 105, .inl (fun j => nI (R.1.2.1 j)))), (sa, .inl (cI, 36, .inl (fun j => nI (R.1.2.2.1 j)))), (oa, .inl (cI, 400, .inl R.1.2.2.2.1)), (ma, .inl (cI, 20, .inl R.2.1))]) 0 0 (q_in [(m0, .inr (1, [.ref s0, .ref g0, .ref ra, .ref sa, .ref oa, .int cc, .ref ma, .int rc])), (g0, .inr (0, [.int fx, .int fy, .long ax, .long ay, .long sp])), (s0, .inr (2, [.ref xa, .ref ya, .int (nI n)])), (xa, .inl (cI, 20, .inl x)), (ya, .inl (cI, 20, .inl y)), (ra, .inl (cI, 105, .inl (fun j => nI (rg j)))), (sa, .inl (cI, 36, .inl (fun j => nI (sr j)))), (oa, .inl (cI, 400, .inl ow)), (ma, .inl (cI, 20, .inl rm))]) := by
  refine Met.ofW (cc := cX1_build) (maxL := 3) (ret := none) (by decide) rfl ?_
  intro p e s m args below meth c s₁ B hml hv
  obtain ⟨rfl, hP, hK, hD0⟩ := hv
  have hx := B.exec
  have hb := B.bytes
  have hr := B.returns
  have hts := atoms_spec (ws := wsX1_build) B.pre
  have hown : s.vm.findClass RX1 = some m.cls := findClass_of_methodNamed B.named
  have hlocks := B.notSynchronized
  have hD := q_inD hD0
  generalize hAe : q_in [(m0, .inr (1, [.ref s0, .ref g0, .ref ra, .ref sa, .ref oa, .int cc, .ref ma, .int rc])), (g0, .inr (0, [.int fx, .int fy, .long ax, .long ay, .long sp])), (s0, .inr (2, [.ref xa, .ref ya, .int (nI n)])), (xa, .inl (cI, 20, .inl x)), (ya, .inl (cI, 20, .inl y)), (ra, .inl (cI, 105, .inl (fun j => nI (rg j)))), (sa, .inl (cI, 36, .inl (fun j => nI (sr j)))), (oa, .inl (cI, 400, .inl ow)), (ma, .inl (cI, 20, .inl rm))] = A at hD ⊢
  have hS : va_S A s.heap s.heap [] := va_S.rf
  have hP : va_P (dC, dI) vwCl [(m0, .inr (1, [.ref s0, .ref g0, .ref ra, .ref sa, .ref oa, .int cc, .ref ma, .int rc])), (g0, .inr (0, [.int fx, .int fy, .long ax, .long ay, .long sp])), (s0, .inr (2, [.ref xa, .ref ya, .int (nI n)])), (xa, .inl (cI, 20, .inl x)), (ya, .inl (cI, 20, .inl y)), (ra, .inl (cI, 105, .inl (fun j => nI (rg j)))), (sa, .inl (cI, 36, .inl (fun j => nI (sr j)))), (oa, .inl (cI, 400, .inl ow)), (ma, .inl (cI, 20, .inl rm))] s.heap := hP
  have hl := lv_entry ([.ref m0]) (n := 3) (Nat.le_of_ble_eq_true rfl)
  rw [lg_entry_eq]
  generalize (lg_sl ([.ref m0]) ++ List.replicate (3 - (lg_sl ([.ref m0])).length) Slot.unset).toArray = ls at hl ⊢
  have hl : lv_has ls 3 [(0, .ref m0)] := hl
  refine lv_aload_n hx hb dX1_build_0 rfl (lv_at hl 0 rfl) ?_
  refine lv_iconst (v := nI 0) hx hb dX1_build_1 (by decide) ?_
  refine va_put (D := (dC, dI)) (ci := 1) (v := .int (nI 0)) (ty := .int) (C := RX1) (T := TX1) (N := 8) hx hb hts (by decide +kernel) tyX1 tyX1_ok nmX1 hown hK hP hD hS 0 rfl rfl 5 (by decide) (hts (.fieldLink RX1 28 "CircleCells$Mosaic" "cellCount" "I") (by decide +kernel)) (fun _ h9 => h9) rfl (by decide +kernel) rfl rfl (Nat.le_of_ble_eq_true rfl) dX1_build_2 (fun H locs hP hD hS => ?_)
  have hP : va_P (dC, dI) vwCl [(m0, .inr (1, [.ref s0, .ref g0, .ref ra, .ref sa, .ref oa, .int (nI 0), .ref ma, .int rc])), (g0, .inr (0, [.int fx, .int fy, .long ax, .long ay, .long sp])), (s0, .inr (2, [.ref xa, .ref ya, .int (nI n)])), (xa, .inl (cI, 20, .inl x)), (ya, .inl (cI, 20, .inl y)), (ra, .inl (cI, 105, .inl (fun j => nI (rg j)))), (sa, .inl (cI, 36, .inl (fun j => nI (sr j)))), (oa, .inl (cI, 400, .inl ow)), (ma, .inl (cI, 20, .inl rm))] H := hP
  have hD : va_D A [(m0, .inr (1, [.ref s0, .ref g0, .ref ra, .ref sa, .ref oa, .int (nI 0), .ref ma, .int rc])), (g0, .inr (0, [.int fx, .int fy, .long ax, .long ay, .long sp])), (s0, .inr (2, [.ref xa, .ref ya, .int (nI n)])), (xa, .inl (cI, 20, .inl x)), (ya, .inl (cI, 20, .inl y)), (ra, .inl (cI, 105, .inl (fun j => nI (rg j)))), (sa, .inl (cI, 36, .inl (fun j => nI (sr j)))), (oa, .inl (cI, 400, .inl ow)), (ma, .inl (cI, 20, .inl rm))] := hD
  refine lv_aload_n hx hb dX1_build_5 rfl (lv_at hl 0 rfl) ?_
  refine va_get (D := (dC, dI)) (ci := 1) (v := .ref oa) (C := RX1) (T := TX1) (N := 8) hx hb hts (by decide +kernel) hown hK hP 0 rfl rfl 4 (by decide) (hts (.fieldLink RX1 25 "CircleCells$Mosaic" "owner" "[I") (by decide +kernel)) (fun _ h9 => h9) rfl dX1_build_6 ?_
  refine lv_iconst (v := (-1)) hx hb dX1_build_9 (by decide) ?_
  obtain ⟨o1, ho1⟩ : ∃ r : Nat → Int32, j_fill (-1) 400 ow 0 = r := ⟨_, rfl⟩
  refine q_mS (wc' := [(oa, .inl (cI, 400, .inl o1))]) (wsN := [(m0, .inr (1, [.ref s0, .ref g0, .ref ra, .ref sa, .ref oa, .int (nI 0), .ref ma, .int rc])), (g0, .inr (0, [.int fx, .int fy, .long ax, .long ay, .long sp])), (s0, .inr (2, [.ref xa, .ref ya, .int (nI n)])), (xa, .inl (cI, 20, .inl x)), (ya, .inl (cI, 20, .inl y)), (ra, .inl (cI, 105, .inl (fun j => nI (rg j)))), (sa, .inl (cI, 36, .inl (fun j => nI (sr j)))), (oa, .inl (cI, 400, .inl o1)), (ma, .inl (cI, 20, .inl rm))]) (As := [.ref oa, .int (-1)]) (rest := []) ⟨hx, hb, hml, hown, hts⟩ (c_J7_fill_53178 l dC dI oa cI 400 ow (-1) (by decide) o1 ho1) (va_cwS 2 hts gX1_build_J7_fill_53178 rfl rfl rfl (by decide +kernel) ⟨Nat.le_of_ble_eq_true rfl, Nat.le_of_ble_eq_true rfl⟩) hK hP hD hS [7] [0] rfl rfl rfl rfl rfl rfl hl.1 rfl (Nat.le_of_ble_eq_true rfl) ⟨Nat.zero_le _, Nat.zero_le _⟩ dX1_build_10 rfl (fun H locs hP hD hS => ?_)
  refine W.eq (g2 := F0 m 13 ls []) rfl ?_
  rw [ho1] at hR
  refine lv_iconst (v := nI 0) hx hb dX1_build_13 (by decide) ?_
  refine lv_istore_n (lv' := [(1, .int (nI 0)), (0, .ref m0)]) hx hb dX1_build_14 rfl hl (by decide) rfl (fun ls hl => ?_)
  have loopA : ∀ (f : Nat) (z : (Int32 × Int32 × Int64 × Int64 × Int64) × (Nat → Nat) × (Nat → Nat) × (Nat → Int32) × Nat) (a : Nat) (R : ((Int32 × Int32 × Int64 × Int64 × Int64) × (Nat → Nat) × (Nat → Nat) × (Nat → Int32) × Nat) × (Nat → Int32) × Nat) (H : Heap) (locs : List Loc) (ls : Array Slot), (a ≤ n) → (n + 1 ≤ a + f) → (j_ok z.2) → j_tail rm n (j_ba x y n z a) = R → va_P (dC, dI) vwCl [(m0, .inr (1, [.ref s0, .ref g0, .ref ra, .ref sa, .ref oa, .int (nI z.2.2.2.2), .ref ma, .int rc])), (g0, .inr (0, [.int z.1.1, .int z.1.2.1, .long z.1.2.2.1, .long z.1.2.2.2.1, .long z.1.2.2.2.2])), (s0, .inr (2, [.ref xa, .ref ya, .int (nI n)])), (xa, .inl (cI, 20, .inl x)), (ya, .inl (cI, 20, .inl y)), (ra, .inl (cI, 105, .inl (fun j => nI (z.2.1 j)))), (sa, .inl (cI, 36, .inl (fun j => nI (z.2.2.1 j)))), (oa, .inl (cI, 400, .inl z.2.2.2.1)), (ma, .inl (cI, 20, .inl rm))] H → va_D A [(m0, .inr (1, [.ref s0, .ref g0, .ref ra, .ref sa, .ref oa, .int (nI z.2.2.2.2), .ref ma, .int rc])), (g0, .inr (0, [.int z.1.1, .int z.1.2.1, .long z.1.2.2.1, .long z.1.2.2.2.1, .long z.1.2.2.2.2])), (s0, .inr (2, [.ref xa, .ref ya, .int (nI n)])), (xa, .inl (cI, 20, .inl x)), (ya, .inl (cI, 20, .inl y)), (ra, .inl (cI, 105, .inl (fun j => nI (z.2.1 j)))), (sa, .inl (cI, 36, .inl (fun j => nI (z.2.2.1 j)))), (oa, .inl (cI, 400, .inl z.2.2.2.1)), (ma, .inl (cI, 20, .inl rm))] → va_S A s.heap H locs → lv_has ls 3 [(0, .ref m0), (1, .int (nI a))] → W p l e (headSpec wsX1_build ({ frames := 4, cells := 0, slots := 0, locals := 95 })).room s m ([.ref m0] : List Value).toArray below meth c H locs 0 0 (MQ below (q_Qm (dC, dI) A none [(m0, .inr (1, [.ref s0, .ref g0, .ref ra, .ref sa, .ref oa, .int (nI R.1.2.2.2.2), .ref ma, .int (nI R.2.2)])), (g0, .inr (0, [.int R.1.1.1, .int R.1.1.2.1, .long R.1.1.2.2.1, .long R.1.1.2.2.2.1, .long R.1.1.2.2.2.2])), (s0, .inr (2, [.ref xa, .ref ya, .int (nI n)])), (xa, .inl (cI, 20, .inl x)), (ya, .inl (cI, 20, .inl y)), (ra, .inl (cI, 105, .inl (fun j => nI (R.1.2.1 j)))), (sa, .inl (cI, 36, .inl (fun j => nI (R.1.2.2.1 j)))), (oa, .inl (cI, 400, .inl R.1.2.2.2.1)), (ma, .inl (cI, 20, .inl R.2.1))]) ([.ref m0] : List Value).toArray s 0 0 A) (F0 m 15 ls []) := by
    intro f
    induction f with
    | zero =>
      intro z a R H locs ls h1 h2 hk
      omega
    | succ f ih_loopA =>
      intro z a R H locs ls h1 h2 hk hF hP hD hS hl
      refine lv_iload_n hx hb dX1_build_15 rfl (lv_at hl 1 rfl) ?_
      refine lv_aload_n hx hb dX1_build_16 rfl (lv_at hl 0 rfl) ?_
      refine va_get (D := (dC, dI)) (ci := 1) (v := .ref s0) (C := RX1) (T := TX1) (N := 8) hx hb hts (by decide +kernel) hown hK hP 0 rfl rfl 0 (by decide) (hts (.fieldLink RX1 38 "CircleCells$Mosaic" "sites" "LCircleCells$Sites;") (by decide +kernel)) (fun _ h9 => h9) rfl dX1_build_17 ?_
      refine va_get (D := (dC, dI)) (ci := 2) (v := .int (nI n)) (C := RX2) (T := TX2) (N := 3) hx hb hts (by decide +kernel) hown hK hP 2 rfl rfl 2 (by decide) (hts (.fieldLink RX1 48 "CircleCells$Sites" "size" "I") (by decide +kernel)) (fun _ h9 => h9) rfl dX1_build_20 ?_
      refine q_icmp_ge (tgt := 76) (by omega) (by omega) hx hb dX1_build_23 (by decide) (fun c23 => ?_) (fun c23 => ?_)
      · rw [j_ba, if_neg (by omega)] at hF
        refine lv_aload_n hx hb dX1_build_76 rfl (lv_at hl 0 rfl) ?_
        obtain ⟨r5, hr5⟩ : ∃ r : (Nat → Int32) × Nat, j_rim z.2.2.2.1 n (j_frim z.2.2.2.1 n 0) rm 0 (j_frim z.2.2.2.1 n 0) = r := ⟨_, rfl⟩
        refine q_mV (wc' := [(m0, .inr (1, [.ref s0, .ref g0, .ref ra, .ref sa, .ref oa, .int (nI z.2.2.2.2), .ref ma, .int (nI r5.2)])), (ma, .inl (cI, 20, .inl r5.1)), (oa, .inl (cI, 400, .inl z.2.2.2.1)), (s0, .inr (2, [.ref xa, .ref ya, .int (nI n)]))]) (wsN := [(m0, .inr (1, [.ref s0, .ref g0, .ref ra, .ref sa, .ref oa, .int (nI z.2.2.2.2), .ref ma, .int (nI r5.2)])), (g0, .inr (0, [.int z.1.1, .int z.1.2.1, .long z.1.2.2.1, .long z.1.2.2.2.1, .long z.1.2.2.2.2])), (s0, .inr (2, [.ref xa, .ref ya, .int (nI n)])), (xa, .inl (cI, 20, .inl x)), (ya, .inl (cI, 20, .inl y)), (ra, .inl (cI, 105, .inl (fun j => nI (z.2.1 j)))), (sa, .inl (cI, 36, .inl (fun j => nI (z.2.2.1 j)))), (oa, .inl (cI, 400, .inl z.2.2.2.1)), (ma, .inl (cI, 20, .inl r5.1))]) (As := []) (rest := []) ⟨hx, hb, hml, hown, hts⟩ (c_X1_walkRim l dC dI m0 s0 g0 ra sa oa ma cI xa ya (nI z.2.2.2.2) rc (by omega) (by omega) z.2.2.2.1 rm n (by omega) r5 hr5) (cwV 0 hts gX1_build_X1_walkRim rfl rfl rfl (by decide +kernel) ⟨Nat.le_of_ble_eq_true rfl, Nat.le_of_ble_eq_true rfl⟩) hK hP hD hS [0, 8, 7, 2] [0] 1 0 rfl rfl rfl rfl rfl rfl rfl rfl rfl hl.1 rfl (Nat.le_of_ble_eq_true rfl) ⟨Nat.zero_le _, Nat.zero_le _⟩ dX1_build_77 rfl (fun H locs hP hD hS => ?_)
        refine W.eq (g2 := F0 m 80 ls []) rfl ?_
        have hF : (z, j_rim z.2.2.2.1 n (j_frim z.2.2.2.1 n 0) rm 0 (j_frim z.2.2.2.1 n 0)) = R := hF
        rw [hr5] at hF
        subst hF
        exact W.vret hx hb hr (q_retm hP hS) hS.2.2 dX1_build_80
      · rw [j_ba, if_pos c23] at hF
        refine lv_iload_n hx hb dX1_build_26 rfl (lv_at hl 1 rfl) ?_
        refine lv_iconst (v := nI 1) hx hb dX1_build_27 (by decide) ?_
        refine q_iadd hx hb dX1_build_28 ?_
        refine lv_istore_n (lv' := [(2, .int (nI (a + 1))), (0, .ref m0), (1, .int (nI a))]) hx hb dX1_build_29 rfl hl (by decide) rfl (fun ls hl => ?_)
        have loopB : ∀ (f : Nat) (z : (Int32 × Int32 × Int64 × Int64 × Int64) × (Nat → Nat) × (Nat → Nat) × (Nat → Int32) × Nat) (b : Nat) (R : ((Int32 × Int32 × Int64 × Int64 × Int64) × (Nat → Nat) × (Nat → Nat) × (Nat → Int32) × Nat) × (Nat → Int32) × Nat) (H : Heap) (locs : List Loc) (ls : Array Slot), (b ≤ n) → (n + 1 ≤ b + f) → (j_ok z.2) → j_tail rm n (j_ba x y n (j_bb x y n a z b) (a + 1)) = R → va_P (dC, dI) vwCl [(m0, .inr (1, [.ref s0, .ref g0, .ref ra, .ref sa, .ref oa, .int (nI z.2.2.2.2), .ref ma, .int rc])), (g0, .inr (0, [.int z.1.1, .int z.1.2.1, .long z.1.2.2.1, .long z.1.2.2.2.1, .long z.1.2.2.2.2])), (s0, .inr (2, [.ref xa, .ref ya, .int (nI n)])), (xa, .inl (cI, 20, .inl x)), (ya, .inl (cI, 20, .inl y)), (ra, .inl (cI, 105, .inl (fun j => nI (z.2.1 j)))), (sa, .inl (cI, 36, .inl (fun j => nI (z.2.2.1 j)))), (oa, .inl (cI, 400, .inl z.2.2.2.1)), (ma, .inl (cI, 20, .inl rm))] H → va_D A [(m0, .inr (1, [.ref s0, .ref g0, .ref ra, .ref sa, .ref oa, .int (nI z.2.2.2.2), .ref ma, .int rc])), (g0, .inr (0, [.int z.1.1, .int z.1.2.1, .long z.1.2.2.1, .long z.1.2.2.2.1, .long z.1.2.2.2.2])), (s0, .inr (2, [.ref xa, .ref ya, .int (nI n)])), (xa, .inl (cI, 20, .inl x)), (ya, .inl (cI, 20, .inl y)), (ra, .inl (cI, 105, .inl (fun j => nI (z.2.1 j)))), (sa, .inl (cI, 36, .inl (fun j => nI (z.2.2.1 j)))), (oa, .inl (cI, 400, .inl z.2.2.2.1)), (ma, .inl (cI, 20, .inl rm))] → va_S A s.heap H locs → lv_has ls 3 [(0, .ref m0), (1, .int (nI a)), (2, .int (nI b))] → W p l e (headSpec wsX1_build ({ frames := 4, cells := 0, slots := 0, locals := 95 })).room s m ([.ref m0] : List Value).toArray below meth c H locs 0 0 (MQ below (q_Qm (dC, dI) A none [(m0, .inr (1, [.ref s0, .ref g0, .ref ra, .ref sa, .ref oa, .int (nI R.1.2.2.2.2), .ref ma, .int (nI R.2.2)])), (g0, .inr (0, [.int R.1.1.1, .int R.1.1.2.1, .long R.1.1.2.2.1, .long R.1.1.2.2.2.1, .long R.1.1.2.2.2.2])), (s0, .inr (2, [.ref xa, .ref ya, .int (nI n)])), (xa, .inl (cI, 20, .inl x)), (ya, .inl (cI, 20, .inl y)), (ra, .inl (cI, 105, .inl (fun j => nI (R.1.2.1 j)))), (sa, .inl (cI, 36, .inl (fun j => nI (R.1.2.2.1 j)))), (oa, .inl (cI, 400, .inl R.1.2.2.2.1)), (ma, .inl (cI, 20, .inl R.2.1))]) ([.ref m0] : List Value).toArray s 0 0 A) (F0 m 30 ls []) := by
          intro f
          induction f with
          | zero =>
            intro z b R H locs ls h3 h4 hk
            omega
          | succ f ih_loopB =>
            intro z b R H locs ls h3 h4 hk hF hP hD hS hl
            refine lv_iload_n hx hb dX1_build_30 rfl (lv_at hl 2 rfl) ?_
            refine lv_aload_n hx hb dX1_build_31 rfl (lv_at hl 0 rfl) ?_
            refine va_get (D := (dC, dI)) (ci := 1) (v := .ref s0) (C := RX1) (T := TX1) (N := 8) hx hb hts (by decide +kernel) hown hK hP 0 rfl rfl 0 (by decide) (hts (.fieldLink RX1 38 "CircleCells$Mosaic" "sites" "LCircleCells$Sites;") (by decide +kernel)) (fun _ h9 => h9) rfl dX1_build_32 ?_
            refine va_get (D := (dC, dI)) (ci := 2) (v := .int (nI n)) (C := RX2) (T := TX2) (N := 3) hx hb hts (by decide +kernel) hown hK hP 2 rfl rfl 2 (by decide) (hts (.fieldLink RX1 48 "CircleCells$Sites" "size" "I") (by decide +kernel)) (fun _ h9 => h9) rfl dX1_build_35 ?_
            refine q_icmp_ge (tgt := 70) (by omega) (by omega) hx hb dX1_build_38 (by decide) (fun c38 => ?_) (fun c38 => ?_)
            · rw [j_bb, if_neg (by omega)] at hF
              refine lv_iinc (v := nI (a + 1)) (lv' := [(1, .int (nI (a + 1))), (0, .ref m0), (2, .int (nI b))]) hx hb dX1_build_70 hl (k := 1) rfl (by rw [show Int32.ofInt 1 = 1 from rfl]; exact nI_1 _) (by decide) rfl (fun ls hl => ?_)
              refine lv_goto (tgt := 15) hx hb dX1_build_73 (by decide) ?_
              exact ih_loopA z (a + 1) R H locs ls (by omega) (by omega) hk hF hP hD hS (lv_sub hl [1, 0] rfl)
            · rw [j_bb, if_pos c38] at hF
              refine lv_aload_n hx hb dX1_build_41 rfl (lv_at hl 0 rfl) ?_
              refine lv_iload_n hx hb dX1_build_42 rfl (lv_at hl 1 rfl) ?_
              refine lv_iload_n hx hb dX1_build_43 rfl (lv_at hl 2 rfl) ?_
              obtain ⟨r1, hr1⟩ : ∃ r : Bool × Int32 × Int32 × Int64 × Int64 × Int64, j_left x y n a b false (z.1.1, z.1.2.1, z.1.2.2.1, z.1.2.2.2.1, z.1.2.2.2.2) 0 = r := ⟨_, rfl⟩
              refine q_mV (wc' := [(m0, .inr (1, [.ref s0, .ref g0, .ref ra, .ref sa, .ref oa, .int (nI z.2.2.2.2), .ref ma, .int rc])), (g0, .inr (0, [.int r1.2.1, .int r1.2.2.1, .long r1.2.2.2.1, .long r1.2.2.2.2.1, .long r1.2.2.2.2.2])), (s0, .inr (2, [.ref xa, .ref ya, .int (nI n)])), (xa, .inl (cI, 20, .inl x)), (ya, .inl (cI, 20, .inl y))]) (wsN := [(m0, .inr (1, [.ref s0, .ref g0, .ref ra, .ref sa, .ref oa, .int (nI z.2.2.2.2), .ref ma, .int rc])), (g0, .inr (0, [.int r1.2.1, .int r1.2.2.1, .long r1.2.2.2.1, .long r1.2.2.2.2.1, .long r1.2.2.2.2.2])), (s0, .inr (2, [.ref xa, .ref ya, .int (nI n)])), (xa, .inl (cI, 20, .inl x)), (ya, .inl (cI, 20, .inl y)), (ra, .inl (cI, 105, .inl (fun j => nI (z.2.1 j)))), (sa, .inl (cI, 36, .inl (fun j => nI (z.2.2.1 j)))), (oa, .inl (cI, 400, .inl z.2.2.2.1)), (ma, .inl (cI, 20, .inl rm))]) (As := [.int (nI a), .int (nI b)]) (rest := []) ⟨hx, hb, hml, hown, hts⟩ (c_X1_layLeftOf l dC dI m0 s0 g0 ra sa oa ma cI xa ya (nI z.2.2.2.2) rc x y z.1.1 z.1.2.1 z.1.2.2.1 z.1.2.2.2.1 z.1.2.2.2.2 n a b (by omega) (by omega) (by omega) r1 hr1) (cwV 2 hts gX1_build_X1_layLeftOf rfl rfl rfl (by decide +kernel) ⟨Nat.le_of_ble_eq_true rfl, Nat.le_of_ble_eq_true rfl⟩) hK hP hD hS [0, 1, 2, 3, 4] [0] 1 0 rfl rfl rfl rfl rfl rfl rfl rfl rfl hl.1 rfl (Nat.le_of_ble_eq_true rfl) ⟨Nat.zero_le _, Nat.zero_le _⟩ dX1_build_44 rfl (fun H locs hP hD hS => ?_)
              refine W.eq (g2 := F0 m 47 ls [.int (bI r1.1)]) rfl ?_
              have hr1 : j_left x y n a b false z.1 0 = r1 := hr1
              rw [j_step, hr1] at hF
              refine q_ifb_eq (tgt := 64) hx hb dX1_build_47 (by decide) (fun c47 => ?_) (fun c47 => ?_)
              · rw [if_pos c47] at hF
                refine lv_iinc (v := nI (b + 1)) (lv' := [(2, .int (nI (b + 1))), (0, .ref m0), (1, .int (nI a))]) hx hb dX1_build_64 hl (k := 2) rfl (by rw [show Int32.ofInt 1 = 1 from rfl]; exact nI_1 _) (by decide) rfl (fun ls hl => ?_)
                refine lv_goto (tgt := 30) hx hb dX1_build_67 (by decide) ?_
                exact ih_loopB (r1.2, z.2) (b + 1) R H locs ls (by omega) (by omega) (by first | exact hk | (rw [← hr2]; exact j_add_ok ln hk)) hF hP hD hS (lv_sub hl [1, 2, 0] rfl)
              · rw [if_neg (by rw [c47]; decide)] at hF
                refine lv_aload_n hx hb dX1_build_50 rfl (lv_at hl 0 rfl) ?_
                refine lv_iload_n hx hb dX1_build_51 rfl (lv_at hl 1 rfl) ?_
                refine lv_iload_n hx hb dX1_build_52 rfl (lv_at hl 2 rfl) ?_
                refine q_cV (As := [.int (nI a), .int (nI b)]) (rest := []) ⟨hx, hb, hml, hown, hts⟩ (c_X1_beginsCell l dC dI m0 s0 g0 ra sa oa ma cI xa ya (nI z.2.2.2.2) rc x y r1.2.1 r1.2.2.1 r1.2.2.2.1 r1.2.2.2.2.1 r1.2.2.2.2.2 n a b (by omega) (by omega) (by omega)) (cwV 2 hts gX1_build_X1_beginsCell rfl rfl rfl (by decide +kernel) ⟨Nat.le_of_ble_eq_true rfl, Nat.le_of_ble_eq_true rfl⟩) (q_pV hK hP [0, 1, 2, 3, 4] [0] 1 0 rfl rfl rfl rfl rfl rfl) rfl hl.1 rfl (Nat.le_of_ble_eq_true rfl) ⟨Nat.zero_le _, Nat.zero_le _⟩ dX1_build_53 ?_
                refine q_ifb_eq (tgt := 64) hx hb dX1_build_56 (by decide) (fun c56 => ?_) (fun c56 => ?_)
                · rw [if_pos c56] at hF
                  refine lv_iinc (v := nI (b + 1)) (lv' := [(2, .int (nI (b + 1))), (0, .ref m0), (1, .int (nI a))]) hx hb dX1_build_64 hl (k := 2) rfl (by rw [show Int32.ofInt 1 = 1 from rfl]; exact nI_1 _) (by decide) rfl (fun ls hl => ?_)
                  refine lv_goto (tgt := 30) hx hb dX1_build_67 (by decide) ?_
                  exact ih_loopB (r1.2, z.2) (b + 1) R H locs ls (by omega) (by omega) (by first | exact hk | (rw [← hr2]; exact j_add_ok ln hk)) hF hP hD hS (lv_sub hl [1, 2, 0] rfl)
                · rw [if_neg (by rw [c56]; decide)] at hF
                  refine lv_aload_n hx hb dX1_build_59 rfl (lv_at hl 0 rfl) ?_
                  refine lv_iload_n hx hb dX1_build_60 rfl (lv_at hl 1 rfl) ?_
                  obtain ⟨r2, hr2⟩ : ∃ r : (Nat → Nat) × (Nat → Nat) × (Nat → Int32) × Nat, j_add x y (r1.2.1, r1.2.2.1, r1.2.2.2.1, r1.2.2.2.2.1, r1.2.2.2.2.2) n a z.2.1 z.2.2.1 z.2.2.2.1 z.2.2.2.2 = r := ⟨_, rfl⟩
                  refine q_mV (wc' := [(m0, .inr (1, [.ref s0, .ref g0, .ref ra, .ref sa, .ref oa, .int (nI r2.2.2.2), .ref ma, .int rc])), (g0, .inr (0, [.int r1.2.1, .int r1.2.2.1, .long r1.2.2.2.1, .long r1.2.2.2.2.1, .long r1.2.2.2.2.2])), (s0, .inr (2, [.ref xa, .ref ya, .int (nI n)])), (xa, .inl (cI, 20, .inl x)), (ya, .inl (cI, 20, .inl y)), (ra, .inl (cI, 105, .inl (fun j => nI (r2.1 j)))), (sa, .inl (cI, 36, .inl (fun j => nI (r2.2.1 j)))), (oa, .inl (cI, 400, .inl r2.2.2.1))]) (wsN := [(m0, .inr (1, [.ref s0, .ref g0, .ref ra, .ref sa, .ref oa, .int (nI r2.2.2.2), .ref ma, .int rc])), (g0, .inr (0, [.int r1.2.1, .int r1.2.2.1, .long r1.2.2.2.1, .long r1.2.2.2.2.1, .long r1.2.2.2.2.2])), (s0, .inr (2, [.ref xa, .ref ya, .int (nI n)])), (xa, .inl (cI, 20, .inl x)), (ya, .inl (cI, 20, .inl y)), (ra, .inl (cI, 105, .inl (fun j => nI (r2.1 j)))), (sa, .inl (cI, 36, .inl (fun j => nI (r2.2.1 j)))), (oa, .inl (cI, 400, .inl r2.2.2.1)), (ma, .inl (cI, 20, .inl rm))]) (As := [.int (nI a)]) (rest := []) ⟨hx, hb, hml, hown, hts⟩ (c_X1_addCell l dC dI m0 s0 g0 ra sa oa ma cI xa ya rc x y r1.2.1 r1.2.2.1 r1.2.2.2.1 r1.2.2.2.2.1 r1.2.2.2.2.2 z.2.1 z.2.2.1 z.2.2.2.1 z.2.2.2.2 n a (by omega) (by omega) hk.2.2 hk.2.1 hk.1 r2 hr2) (cwV 1 hts gX1_build_X1_addCell rfl rfl rfl (by decide +kernel) ⟨Nat.le_of_ble_eq_true rfl, Nat.le_of_ble_eq_true rfl⟩) hK hP hD hS [0, 1, 2, 3, 4, 5, 6, 7] [0] 1 0 rfl rfl rfl rfl rfl rfl rfl rfl rfl hl.1 rfl (Nat.le_of_ble_eq_true rfl) ⟨Nat.zero_le _, Nat.zero_le _⟩ dX1_build_61 rfl (fun H locs hP hD hS => ?_)
                  refine W.eq (g2 := F0 m 64 ls []) rfl ?_
                  have hr2 : j_add x y r1.2 n a z.2.1 z.2.2.1 z.2.2.2.1 z.2.2.2.2 = r2 := hr2
                  rw [hr2] at hF
                  refine lv_iinc (v := nI (b + 1)) (lv' := [(2, .int (nI (b + 1))), (0, .ref m0), (1, .int (nI a))]) hx hb dX1_build_64 hl (k := 2) rfl (by rw [show Int32.ofInt 1 = 1 from rfl]; exact nI_1 _) (by decide) rfl (fun ls hl => ?_)
                  refine lv_goto (tgt := 30) hx hb dX1_build_67 (by decide) ?_
                  exact ih_loopB (r1.2, r2) (b + 1) R H locs ls (by omega) (by omega) (by first | exact hk | (rw [← hr2]; exact j_add_ok ln hk)) hF hP hD hS (lv_sub hl [1, 2, 0] rfl)
        exact loopB (n + 1) z (a + 1) R _ _ ls (by omega) (by omega) hk hF hP hD hS (lv_sub hl [1, 2, 0] rfl)
  exact loopA (n + 1) ((fx, fy, ax, ay, sp), rg, sr, o1, 0) 0 R _ _ ls (by omega) (by omega) ⟨lr, Nat.zero_le 35, by show sr 0 ≤ 105; omega⟩ hR hP hD hS (lv_sub hl [1, 0] rfl)
set_option maxHeartbeats 4000000 in
set_option maxRecDepth 100000 in
theorem c_X1_circleOf (l : Launch) (dC : Nat → ClassId) (dI : Nat → Nat → Nat) (m0 s0 g0 ra sa oa ma : Nat) (cI : ClassId) (xa ya : Nat) (sz cc rc : Int32) (x y : Nat → Int32) (fx fy : Int32) (ax ay sp : Int64) (rg sr : Nat → Nat) (d : Nat) (ld : d < 35) (l3 : sr d + 2 < 105) (lr : ∀ j, rg j < 20) (R : Int32 × Int32 × Int64 × Int64 × Int64) (hR : j_lay x y (rg (sr d + 0)) (rg (sr d + 1)) (rg (sr d + 2)) = R) : Met l yX1_circleOf wsX1_circleOf ({ frames := 1, cells := 0, slots := 0, locals := 36 }) (q_Pm (dC, dI) [.ref m0, .int (nI d)] [(m0, .inr (1, [.ref s0, .ref g0, .ref ra, .ref sa, .ref oa, .int cc, .ref ma, .int rc])), (g0, .inr (0, [.int fx, .int fy, .long ax, .long ay, .long sp])), (s0, .inr (2, [.ref xa, .ref ya, .int sz])), (xa, .inl (cI, 20, .inl x)), (ya, .inl (cI, 20, .inl y)), (ra, .inl (cI, 105, .inl (fun j => nI (rg j)))), (sa, .inl (cI, 36, .inl (fun j => nI (sr j))))] [(cI, .int)]) (q_Qm (dC, dI) (q_in [(m0, .inr (1, [.ref s0, .ref g0, .ref ra, .ref sa, .ref oa, .int cc, .ref ma, .int rc])), (g0, .inr (0, [.int fx, .int fy, .long ax, .long ay, .long sp])), (s0, .inr (2, [.ref xa, .ref ya, .int sz])), (xa, .inl (cI, 20, .inl x)), (ya, .inl (cI, 20, .inl y)), (ra, .inl (cI, 105, .inl (fun j => nI (rg j)))), (sa, .inl (cI, 36, .inl (fun j => nI (sr j))))]) (some (.ref g0)) [(m0, .inr (1, [.ref s0, .ref g0, .ref ra, .ref sa, .ref oa, .int cc, .ref ma, .int rc])), (g0, .inr (0, [.int R.1, .int R.2.1, .long R.2.2.1, .long R.2.2.2.1, .long R.2.2.2.2])), (s0, .inr (2, [.ref xa, .ref ya, .int sz])), (xa, .inl (cI, 20, .inl x)), (ya, .inl (cI, 20, .inl y)), (ra, .inl (cI, 105, .inl (fun j => nI (rg j)))), (sa, .inl (cI, 36, .inl (fun j => nI (sr j))))]) 0 0 (q_in [(m0, .inr (1, [.ref s0, .ref g0, .ref ra, .ref sa, .ref oa, .int cc, .ref ma, .int rc])), (g0, .inr (0, [.int fx, .int fy, .long ax, .long ay, .long sp])), (s0, .inr (2, [.ref xa, .ref ya, .int sz])), (xa, .inl (cI, 20, .inl x)), (ya, .inl (cI, 20, .inl y)), (ra, .inl (cI, 105, .inl (fun j => nI (rg j)))), (sa, .inl (cI, 36, .inl (fun j => nI (sr j))))]) := by
  refine Met.ofW (cc := cX1_circleOf) (maxL := 2) (ret := (some (.object "CircleCells$Circle"))) (by decide) rfl ?_
  intro p e s m args below meth c s₁ B hml hv
  obtain ⟨rfl, hP, hK, hD0⟩ := hv
  have hx := B.exec
  have hb := B.bytes
  have hr := B.returns
  have hts := atoms_spec (ws := wsX1_circleOf) B.pre
  have hown : s.vm.findClass RX1 = some m.cls := findClass_of_methodNamed B.named
  have hlocks := B.notSynchronized
  have hD := q_inD hD0
  generalize hAe : q_in [(m0, .inr (1, [.ref s0, .ref g0, .ref ra, .ref sa, .ref oa, .int cc, .ref ma, .int rc])), (g0, .inr (0, [.int fx, .int fy, .long ax, .long ay, .long sp])), (s0, .inr (2, [.ref xa, .ref ya, .int sz])), (xa, .inl (cI, 20, .inl x)), (ya, .inl (cI, 20, .inl y)), (ra, .inl (cI, 105, .inl (fun j => nI (rg j)))), (sa, .inl (cI, 36, .inl (fun j => nI (sr j))))] = A at hD ⊢
  have hS : va_S A s.heap s.heap [] := va_S.rf
  have hP : va_P (dC, dI) vwCl [(m0, .inr (1, [.ref s0, .ref g0, .ref ra, .ref sa, .ref oa, .int cc, .ref ma, .int rc])), (g0, .inr (0, [.int fx, .int fy, .long ax, .long ay, .long sp])), (s0, .inr (2, [.ref xa, .ref ya, .int sz])), (xa, .inl (cI, 20, .inl x)), (ya, .inl (cI, 20, .inl y)), (ra, .inl (cI, 105, .inl (fun j => nI (rg j)))), (sa, .inl (cI, 36, .inl (fun j => nI (sr j))))] s.heap := hP
  have hl := lv_entry ([.ref m0, .int (nI d)]) (n := 2) (Nat.le_of_ble_eq_true rfl)
  rw [lg_entry_eq]
  generalize (lg_sl ([.ref m0, .int (nI d)]) ++ List.replicate (2 - (lg_sl ([.ref m0, .int (nI d)])).length) Slot.unset).toArray = ls at hl ⊢
  have hl : lv_has ls 2 [(0, .ref m0), (1, .int (nI d))] := hl
  refine lv_aload_n hx hb dX1_circleOf_0 rfl (lv_at hl 0 rfl) ?_
  refine va_get (D := (dC, dI)) (ci := 1) (v := .ref g0) (C := RX1) (T := TX1) (N := 8) hx hb hts (by decide +kernel) hown hK hP 0 rfl rfl 1 (by decide) (hts (.fieldLink RX1 12 "CircleCells$Mosaic" "circle" "LCircleCells$Circle;") (by decide +kernel)) (fun _ h9 => h9) rfl dX1_circleOf_1 ?_
  refine lv_aload_n hx hb dX1_circleOf_4 rfl (lv_at hl 0 rfl) ?_
  refine va_get (D := (dC, dI)) (ci := 1) (v := .ref s0) (C := RX1) (T := TX1) (N := 8) hx hb hts (by decide +kernel) hown hK hP 0 rfl rfl 0 (by decide) (hts (.fieldLink RX1 38 "CircleCells$Mosaic" "sites" "LCircleCells$Sites;") (by decide +kernel)) (fun _ h9 => h9) rfl dX1_circleOf_5 ?_
  refine lv_aload_n hx hb dX1_circleOf_8 rfl (lv_at hl 0 rfl) ?_
  refine lv_iload_n hx hb dX1_circleOf_9 rfl (lv_at hl 1 rfl) ?_
  refine lv_iconst (v := nI 0) hx hb dX1_circleOf_10 (by decide) ?_
  refine q_cV (As := [.int (nI d), .int (nI 0)]) (rest := [.ref s0, .ref g0]) ⟨hx, hb, hml, hown, hts⟩ (c_X1_siteOf l dC dI m0 s0 g0 ra sa oa ma cI cc rc rg sr d 0 (by omega) (by omega)) (cwV 2 hts gX1_circleOf_X1_siteOf rfl rfl rfl (by decide +kernel) ⟨Nat.le_of_ble_eq_true rfl, Nat.le_of_ble_eq_true rfl⟩) (q_pV hK hP [0, 5, 6] [0] 1 0 rfl rfl rfl rfl rfl rfl) rfl hl.1 rfl (Nat.le_of_ble_eq_true rfl) ⟨Nat.zero_le _, Nat.zero_le _⟩ dX1_circleOf_11 ?_
  refine lv_aload_n hx hb dX1_circleOf_14 rfl (lv_at hl 0 rfl) ?_
  refine lv_iload_n hx hb dX1_circleOf_15 rfl (lv_at hl 1 rfl) ?_
  refine lv_iconst (v := nI 1) hx hb dX1_circleOf_16 (by decide) ?_
  refine q_cV (As := [.int (nI d), .int (nI 1)]) (rest := [.int (nI (rg (sr d + 0))), .ref s0, .ref g0]) ⟨hx, hb, hml, hown, hts⟩ (c_X1_siteOf l dC dI m0 s0 g0 ra sa oa ma cI cc rc rg sr d 1 (by omega) (by omega)) (cwV 2 hts gX1_circleOf_X1_siteOf rfl rfl rfl (by decide +kernel) ⟨Nat.le_of_ble_eq_true rfl, Nat.le_of_ble_eq_true rfl⟩) (q_pV hK hP [0, 5, 6] [0] 1 0 rfl rfl rfl rfl rfl rfl) rfl hl.1 rfl (Nat.le_of_ble_eq_true rfl) ⟨Nat.zero_le _, Nat.zero_le _⟩ dX1_circleOf_17 ?_
  refine lv_aload_n hx hb dX1_circleOf_20 rfl (lv_at hl 0 rfl) ?_
  refine lv_iload_n hx hb dX1_circleOf_21 rfl (lv_at hl 1 rfl) ?_
  refine lv_iconst (v := nI 2) hx hb dX1_circleOf_22 (by decide) ?_
  refine q_cV (As := [.int (nI d), .int (nI 2)]) (rest := [.int (nI (rg (sr d + 1))), .int (nI (rg (sr d + 0))), .ref s0, .ref g0]) ⟨hx, hb, hml, hown, hts⟩ (c_X1_siteOf l dC dI m0 s0 g0 ra sa oa ma cI cc rc rg sr d 2 (by omega) (by omega)) (cwV 2 hts gX1_circleOf_X1_siteOf rfl rfl rfl (by decide +kernel) ⟨Nat.le_of_ble_eq_true rfl, Nat.le_of_ble_eq_true rfl⟩) (q_pV hK hP [0, 5, 6] [0] 1 0 rfl rfl rfl rfl rfl rfl) rfl hl.1 rfl (Nat.le_of_ble_eq_true rfl) ⟨Nat.zero_le _, Nat.zero_le _⟩ dX1_circleOf_23 ?_
  obtain ⟨k2, hk2⟩ : ∃ r : Int32 × Int32 × Int64 × Int64 × Int64, j_lay x y (rg (sr d + 0)) (rg (sr d + 1)) (rg (sr d + 2)) = r := ⟨_, rfl⟩
  refine q_mV (wc' := [(g0, .inr (0, [.int k2.1, .int k2.2.1, .long k2.2.2.1, .long k2.2.2.2.1, .long k2.2.2.2.2])), (s0, .inr (2, [.ref xa, .ref ya, .int sz])), (xa, .inl (cI, 20, .inl x)), (ya, .inl (cI, 20, .inl y))]) (wsN := [(m0, .inr (1, [.ref s0, .ref g0, .ref ra, .ref sa, .ref oa, .int cc, .ref ma, .int rc])), (g0, .inr (0, [.int k2.1, .int k2.2.1, .long k2.2.2.1, .long k2.2.2.2.1, .long k2.2.2.2.2])), (s0, .inr (2, [.ref xa, .ref ya, .int sz])), (xa, .inl (cI, 20, .inl x)), (ya, .inl (cI, 20, .inl y)), (ra, .inl (cI, 105, .inl (fun j => nI (rg j)))), (sa, .inl (cI, 36, .inl (fun j => nI (sr j))))]) (As := [.ref s0, .int (nI (rg (sr d + 0))), .int (nI (rg (sr d + 1))), .int (nI (rg (sr d + 2)))]) (rest := []) ⟨hx, hb, hml, hown, hts⟩ (c_X0_layThrough l dC dI g0 s0 xa ya cI x y fx fy ax ay sp sz (rg (sr d + 0)) (rg (sr d + 1)) (rg (sr d + 2)) (lr _) (lr _) (lr _) k2 hk2) (cwV 4 hts gX1_circleOf_X0_layThrough rfl rfl rfl (by decide +kernel) ⟨Nat.le_of_ble_eq_true rfl, Nat.le_of_ble_eq_true rfl⟩) hK hP hD hS [1, 2, 3, 4] [0] 0 1 rfl rfl rfl rfl rfl rfl rfl rfl rfl hl.1 rfl (Nat.le_of_ble_eq_true rfl) ⟨Nat.zero_le _, Nat.zero_le _⟩ dX1_circleOf_26 rfl (fun H locs hP hD hS => ?_)
  refine W.eq (g2 := F0 m 29 ls []) rfl ?_
  rw [hk2] at hR
  subst hR
  refine lv_aload_n hx hb dX1_circleOf_29 rfl (lv_at hl 0 rfl) ?_
  refine va_get (D := (dC, dI)) (ci := 1) (v := .ref g0) (C := RX1) (T := TX1) (N := 8) hx hb hts (by decide +kernel) hown hK hP 0 rfl rfl 1 (by decide) (hts (.fieldLink RX1 12 "CircleCells$Mosaic" "circle" "LCircleCells$Circle;") (by decide +kernel)) (fun _ h9 => h9) rfl dX1_circleOf_30 ?_
  exact W.aret (v := .ref g0) hx hb hr (Or.inl ⟨_, rfl⟩) (Or.inr ⟨_, rfl⟩) (q_retm hP hS) hS.2.2 dX1_circleOf_33
end
section
/-! More rows of my own: remainders, longs that are naturals. -/
theorem nI_m1 {w : Nat} (h : w < 2 ^ 31) : ¬ nI w = -1 := by
  intro e
  have h1 := congrArg Int32.toInt e
  rw [nI_toInt h] at h1
  have h2 : (-1 : Int32).toInt = -1 := by decide
  omega
theorem lN_ne0 {w : Nat} (h0 : 0 < w) (h : w < 2 ^ 63) : ¬ lN w = 0 := by
  intro e
  have h1 : lN w = lN 0 := e
  have := (pk_lEQ h (by decide)).mp h1
  omega
section QL
variable {p : Program} {l : Launch} {e : Env} {R : Room} {s : State} {m : MethodId} {args : Array Value} {below : List Frame} {meth : Method} {c : Code} {H : Heap} {locs : List Loc} {cells slots : Nat} {Q : State → Prop}
variable {cc : ByteArray} {pc : Nat} {ls : Array Slot} {rest : List Value}
theorem q_irem {x y : Nat} (hx9 : x < 2 ^ 31) (hy0 : 0 < y) (hy9 : y < 2 ^ 31) (hexec : p.tables.exec = Jvm.exec) (hb : c.code = cc) (hdg : decode cc pc = .ok (.irem, 1)) (kk : W p l e R s m args below meth c H locs cells slots Q (F0 m (pc + 1) ls (.int (nI (x % y)) :: rest))) : W p l e R s m args below meth c H locs cells slots Q (F0 m pc ls (.int (nI y) :: .int (nI x) :: rest)) := lv_irem hexec hb hdg (nI_ne0 hy0 hy9) (by rw [pk_rem hx9 hy0 hy9]; exact kk)
theorem q_lrem {x y : Nat} (hx9 : x < 2 ^ 63) (hy0 : 0 < y) (hy9 : y < 2 ^ 63) (hexec : p.tables.exec = Jvm.exec) (hb : c.code = cc) (hdg : decode cc pc = .ok (.lrem, 1)) (kk : W p l e R s m args below meth c H locs cells slots Q (F0 m (pc + 1) ls (.long (lN (x % y)) :: rest))) : W p l e R s m args below meth c H locs cells slots Q (F0 m pc ls (.long (lN y) :: .long (lN x) :: rest)) := lv_lrem hexec hb hdg (lN_ne0 hy0 hy9) (by rw [pk_lRem hx9 hy0 hy9]; exact kk)
theorem q_ladd {x y : Nat} (hexec : p.tables.exec = Jvm.exec) (hb : c.code = cc) (hdg : decode cc pc = .ok (.ladd, 1)) (kk : W p l e R s m args below meth c H locs cells slots Q (F0 m (pc + 1) ls (.long (lN (x + y)) :: rest))) : W p l e R s m args below meth c H locs cells slots Q (F0 m pc ls (.long (lN y) :: .long (lN x) :: rest)) := lv_ladd hexec hb hdg (by rw [lN_add]; exact kk)
theorem q_lcmpN_eq {x y : Nat} {off : Int} {tgt : Nat} (hx9 : x < 2 ^ 63) (hy9 : y < 2 ^ 63) (hexec : p.tables.exec = Jvm.exec) (hb : c.code = cc) (hdg : decode cc pc = .ok (.lcmp, 1)) (hdg2 : decode cc (pc + 1) = .ok (.ifCond .eq off, 3)) (ht : ((pc + 1 : Nat) : Int) + off = (tgt : Int)) (kt : x = y → W p l e R s m args below meth c H locs cells slots Q (F0 m tgt ls rest)) (kf : ¬ x = y → W p l e R s m args below meth c H locs cells slots Q (F0 m (pc + 1 + 3) ls rest)) : W p l e R s m args below meth c H locs cells slots Q (F0 m pc ls (.long (lN y) :: .long (lN x) :: rest)) := q_lcmp_eq hexec hb hdg hdg2 ht (fun h => kt ((pk_lEQ hx9 hy9).mp h)) (fun h => kf (fun h2 => h ((pk_lEQ hx9 hy9).mpr h2)))
theorem q_lcmpN_ne {x y : Nat} {off : Int} {tgt : Nat} (hx9 : x < 2 ^ 63) (hy9 : y < 2 ^ 63) (hexec : p.tables.exec = Jvm.exec) (hb : c.code = cc) (hdg : decode cc pc = .ok (.lcmp, 1)) (hdg2 : decode cc (pc + 1) = .ok (.ifCond .ne off, 3)) (ht : ((pc + 1 : Nat) : Int) + off = (tgt : Int)) (kt : ¬ x = y → W p l e R s m args below meth c H locs cells slots Q (F0 m tgt ls rest)) (kf : x = y → W p l e R s m args below meth c H locs cells slots Q (F0 m (pc + 1 + 3) ls rest)) : W p l e R s m args below meth c H locs cells slots Q (F0 m pc ls (.long (lN y) :: .long (lN x) :: rest)) := q_lcmp_ne hexec hb hdg hdg2 ht (fun h => kt (fun h2 => h ((pk_lEQ hx9 hy9).mpr h2))) (fun h => kf ((pk_lEQ hx9 hy9).mp h))
theorem q_lcmpN_lt {x y : Nat} {off : Int} {tgt : Nat} (hx9 : x < 2 ^ 63) (hy9 : y < 2 ^ 63) (hexec : p.tables.exec = Jvm.exec) (hb : c.code = cc) (hdg : decode cc pc = .ok (.lcmp, 1)) (hdg2 : decode cc (pc + 1) = .ok (.ifCond .lt off, 3)) (ht : ((pc + 1 : Nat) : Int) + off = (tgt : Int)) (kt : x < y → W p l e R s m args below meth c H locs cells slots Q (F0 m tgt ls rest)) (kf : y ≤ x → W p l e R s m args below meth c H locs cells slots Q (F0 m (pc + 1 + 3) ls rest)) : W p l e R s m args below meth c H locs cells slots Q (F0 m pc ls (.long (lN y) :: .long (lN x) :: rest)) := q_lcmp_lt hexec hb hdg hdg2 ht (fun h => kt ((pk_lLT hx9 hy9).mp h)) (fun h => kf (Nat.not_lt.mp (fun h2 => h ((pk_lLT hx9 hy9).mpr h2))))
theorem q_lcmpN_ge {x y : Nat} {off : Int} {tgt : Nat} (hx9 : x < 2 ^ 63) (hy9 : y < 2 ^ 63) (hexec : p.tables.exec = Jvm.exec) (hb : c.code = cc) (hdg : decode cc pc = .ok (.lcmp, 1)) (hdg2 : decode cc (pc + 1) = .ok (.ifCond .ge off, 3)) (ht : ((pc + 1 : Nat) : Int) + off = (tgt : Int)) (kt : y ≤ x → W p l e R s m args below meth c H locs cells slots Q (F0 m tgt ls rest)) (kf : x < y → W p l e R s m args below meth c H locs cells slots Q (F0 m (pc + 1 + 3) ls rest)) : W p l e R s m args below meth c H locs cells slots Q (F0 m pc ls (.long (lN y) :: .long (lN x) :: rest)) := q_lcmp_ge hexec hb hdg hdg2 ht (fun h => kt ((pk_lLE hy9 hx9).mp h)) (fun h => kf (Nat.not_le.mp (fun h2 => h ((pk_lLE hy9 hx9).mpr h2))))
theorem q_lcmpN_gt {x y : Nat} {off : Int} {tgt : Nat} (hx9 : x < 2 ^ 63) (hy9 : y < 2 ^ 63) (hexec : p.tables.exec = Jvm.exec) (hb : c.code = cc) (hdg : decode cc pc = .ok (.lcmp, 1)) (hdg2 : decode cc (pc + 1) = .ok (.ifCond .gt off, 3)) (ht : ((pc + 1 : Nat) : Int) + off = (tgt : Int)) (kt : y < x → W p l e R s m args below meth c H locs cells slots Q (F0 m tgt ls rest)) (kf : x ≤ y → W p l e R s m args below meth c H locs cells slots Q (F0 m (pc + 1 + 3) ls rest)) : W p l e R s m args below meth c H locs cells slots Q (F0 m pc ls (.long (lN y) :: .long (lN x) :: rest)) := q_lcmp_gt hexec hb hdg hdg2 ht (fun h => kt ((pk_lLT hy9 hx9).mp h)) (fun h => kf (Nat.not_lt.mp (fun h2 => h ((pk_lLT hy9 hx9).mpr h2))))
theorem q_lcmpN_le {x y : Nat} {off : Int} {tgt : Nat} (hx9 : x < 2 ^ 63) (hy9 : y < 2 ^ 63) (hexec : p.tables.exec = Jvm.exec) (hb : c.code = cc) (hdg : decode cc pc = .ok (.lcmp, 1)) (hdg2 : decode cc (pc + 1) = .ok (.ifCond .le off, 3)) (ht : ((pc + 1 : Nat) : Int) + off = (tgt : Int)) (kt : x ≤ y → W p l e R s m args below meth c H locs cells slots Q (F0 m tgt ls rest)) (kf : y < x → W p l e R s m args below meth c H locs cells slots Q (F0 m (pc + 1 + 3) ls rest)) : W p l e R s m args below meth c H locs cells slots Q (F0 m pc ls (.long (lN y) :: .long (lN x) :: rest)) := q_lcmp_le hexec hb hdg hdg2 ht (fun h => kt ((pk_lLE hx9 hy9).mp h)) (fun h => kf (Nat.not_le.mp (fun h2 => h ((pk_lLE hx9 hy9).mpr h2))))
end QL
end
section
theorem dX4_init_0 : decode cX4_init 0 = .ok (.aload_n 0, 1) := by decide +kernel
theorem dX4_init_1 : decode cX4_init 1 = .ok (.invokespecial 1, 3) := by decide +kernel
theorem dX4_init_4 : decode cX4_init 4 = .ok (.aload_n 0, 1) := by decide +kernel
theorem dX4_init_5 : decode cX4_init 5 = .ok (.bipush 20, 2) := by decide +kernel
theorem dX4_init_7 : decode cX4_init 7 = .ok (.newarray .int, 2) := by decide +kernel
theorem dX4_init_9 : decode cX4_init 9 = .ok (.putfield 7, 3) := by decide +kernel
theorem dX4_init_12 : decode cX4_init 12 = .ok (.aload_n 0, 1) := by decide +kernel
theorem dX4_init_13 : decode cX4_init 13 = .ok (.bipush 20, 2) := by decide +kernel
theorem dX4_init_15 : decode cX4_init 15 = .ok (.newarray .int, 2) := by decide +kernel
theorem dX4_init_17 : decode cX4_init 17 = .ok (.putfield 13, 3) := by decide +kernel
theorem dX4_init_20 : decode cX4_init 20 = .ok (.aload_n 0, 1) := by decide +kernel
theorem dX4_init_21 : decode cX4_init 21 = .ok (.bipush 60, 2) := by decide +kernel
theorem dX4_init_23 : decode cX4_init 23 = .ok (.newarray .int, 2) := by decide +kernel
theorem dX4_init_25 : decode cX4_init 25 = .ok (.putfield 16, 3) := by decide +kernel
theorem dX4_init_28 : decode cX4_init 28 = .ok (.aload_n 0, 1) := by decide +kernel
theorem dX4_init_29 : decode cX4_init 29 = .ok (.sipush 1200, 3) := by decide +kernel
theorem dX4_init_32 : decode cX4_init 32 = .ok (.newarray .int, 2) := by decide +kernel
theorem dX4_init_34 : decode cX4_init 34 = .ok (.putfield 19, 3) := by decide +kernel
theorem dX4_init_37 : decode cX4_init 37 = .ok (.aload_n 0, 1) := by decide +kernel
theorem dX4_init_38 : decode cX4_init 38 = .ok (.bipush 60, 2) := by decide +kernel
theorem dX4_init_40 : decode cX4_init 40 = .ok (.newarray .int, 2) := by decide +kernel
theorem dX4_init_42 : decode cX4_init 42 = .ok (.putfield 22, 3) := by decide +kernel
theorem dX4_init_45 : decode cX4_init 45 = .ok (.aload_n 0, 1) := by decide +kernel
theorem dX4_init_46 : decode cX4_init 46 = .ok (.bipush 20, 2) := by decide +kernel
theorem dX4_init_48 : decode cX4_init 48 = .ok (.newarray .int, 2) := by decide +kernel
theorem dX4_init_50 : decode cX4_init 50 = .ok (.putfield 25, 3) := by decide +kernel
theorem dX4_init_53 : decode cX4_init 53 = .ok (.return_, 1) := by decide +kernel
theorem dX4_thrown_0 : decode cX4_thrown 0 = .ok (.aload_n 0, 1) := by decide +kernel
theorem dX4_thrown_1 : decode cX4_thrown 1 = .ok (.getfield 28, 3) := by decide +kernel
theorem dX4_thrown_4 : decode cX4_thrown 4 = .ok (.ireturn, 1) := by decide +kernel
theorem dX4_throwing_0 : decode cX4_throwing 0 = .ok (.aload_n 0, 1) := by decide +kernel
theorem dX4_throwing_1 : decode cX4_throwing 1 = .ok (.iload_n 1, 1) := by decide +kernel
theorem dX4_throwing_2 : decode cX4_throwing 2 = .ok (.ifCond .eq 7, 3) := by decide +kernel
theorem dX4_throwing_5 : decode cX4_throwing 5 = .ok (.iconst 1, 1) := by decide +kernel
theorem dX4_throwing_6 : decode cX4_throwing 6 = .ok (.goto 12, 3) := by decide +kernel
theorem dX4_throwing_9 : decode cX4_throwing 9 = .ok (.iload_n 2, 1) := by decide +kernel
theorem dX4_throwing_10 : decode cX4_throwing 10 = .ok (.ifCond .eq 7, 3) := by decide +kernel
theorem dX4_throwing_13 : decode cX4_throwing 13 = .ok (.iconst 2, 1) := by decide +kernel
theorem dX4_throwing_14 : decode cX4_throwing 14 = .ok (.goto 4, 3) := by decide +kernel
theorem dX4_throwing_17 : decode cX4_throwing 17 = .ok (.iconst 0, 1) := by decide +kernel
theorem dX4_throwing_18 : decode cX4_throwing 18 = .ok (.putfield 28, 3) := by decide +kernel
theorem dX4_throwing_21 : decode cX4_throwing 21 = .ok (.aload_n 0, 1) := by decide +kernel
theorem dX4_throwing_22 : decode cX4_throwing 22 = .ok (.getfield 28, 3) := by decide +kernel
theorem dX4_throwing_25 : decode cX4_throwing 25 = .ok (.ifCond .le 7, 3) := by decide +kernel
theorem dX4_throwing_28 : decode cX4_throwing 28 = .ok (.iconst 1, 1) := by decide +kernel
theorem dX4_throwing_29 : decode cX4_throwing 29 = .ok (.goto 4, 3) := by decide +kernel
theorem dX4_throwing_32 : decode cX4_throwing 32 = .ok (.iconst 0, 1) := by decide +kernel
theorem dX4_throwing_33 : decode cX4_throwing 33 = .ok (.ireturn, 1) := by decide +kernel
theorem dX4_out_0 : decode cX4_out 0 = .ok (.iload_n 0, 1) := by decide +kernel
theorem dX4_out_1 : decode cX4_out 1 = .ok (.ifCond .lt 8, 3) := by decide +kernel
theorem dX4_out_4 : decode cX4_out 4 = .ok (.iload_n 0, 1) := by decide +kernel
theorem dX4_out_5 : decode cX4_out 5 = .ok (.iload_n 1, 1) := by decide +kernel
theorem dX4_out_6 : decode cX4_out 6 = .ok (.if_icmp .lt 7, 3) := by decide +kernel
theorem dX4_out_9 : decode cX4_out 9 = .ok (.iconst 1, 1) := by decide +kernel
theorem dX4_out_10 : decode cX4_out 10 = .ok (.goto 4, 3) := by decide +kernel
theorem dX4_out_13 : decode cX4_out 13 = .ok (.iconst 0, 1) := by decide +kernel
theorem dX4_out_14 : decode cX4_out 14 = .ok (.ireturn, 1) := by decide +kernel
theorem dX4_isFar_0 : decode cX4_isFar 0 = .ok (.iload_n 0, 1) := by decide +kernel
theorem dX4_isFar_1 : decode cX4_isFar 1 = .ok (.sipush (-400), 3) := by decide +kernel
theorem dX4_isFar_4 : decode cX4_isFar 4 = .ok (.if_icmp .lt 24, 3) := by decide +kernel
theorem dX4_isFar_7 : decode cX4_isFar 7 = .ok (.iload_n 0, 1) := by decide +kernel
theorem dX4_isFar_8 : decode cX4_isFar 8 = .ok (.sipush 400, 3) := by decide +kernel
theorem dX4_isFar_11 : decode cX4_isFar 11 = .ok (.if_icmp .gt 17, 3) := by decide +kernel
theorem dX4_isFar_14 : decode cX4_isFar 14 = .ok (.iload_n 1, 1) := by decide +kernel
theorem dX4_isFar_15 : decode cX4_isFar 15 = .ok (.sipush (-400), 3) := by decide +kernel
theorem dX4_isFar_18 : decode cX4_isFar 18 = .ok (.if_icmp .lt 10, 3) := by decide +kernel
theorem dX4_isFar_21 : decode cX4_isFar 21 = .ok (.iload_n 1, 1) := by decide +kernel
theorem dX4_isFar_22 : decode cX4_isFar 22 = .ok (.sipush 400, 3) := by decide +kernel
theorem dX4_isFar_25 : decode cX4_isFar 25 = .ok (.if_icmp .le 7, 3) := by decide +kernel
theorem dX4_isFar_28 : decode cX4_isFar 28 = .ok (.iconst 1, 1) := by decide +kernel
theorem dX4_isFar_29 : decode cX4_isFar 29 = .ok (.goto 4, 3) := by decide +kernel
theorem dX4_isFar_32 : decode cX4_isFar 32 = .ok (.iconst 0, 1) := by decide +kernel
theorem dX4_isFar_33 : decode cX4_isFar 33 = .ok (.ireturn, 1) := by decide +kernel
theorem dX4_isTaken_0 : decode cX4_isTaken 0 = .ok (.iconst 0, 1) := by decide +kernel
theorem dX4_isTaken_1 : decode cX4_isTaken 1 = .ok (.istore 4, 2) := by decide +kernel
theorem dX4_isTaken_3 : decode cX4_isTaken 3 = .ok (.iconst 0, 1) := by decide +kernel
theorem dX4_isTaken_4 : decode cX4_isTaken 4 = .ok (.istore 5, 2) := by decide +kernel
theorem dX4_isTaken_6 : decode cX4_isTaken 6 = .ok (.iload 5, 2) := by decide +kernel
theorem dX4_isTaken_8 : decode cX4_isTaken 8 = .ok (.aload_n 0, 1) := by decide +kernel
theorem dX4_isTaken_9 : decode cX4_isTaken 9 = .ok (.getfield 32, 3) := by decide +kernel
theorem dX4_isTaken_12 : decode cX4_isTaken 12 = .ok (.if_icmp .ge 49, 3) := by decide +kernel
theorem dX4_isTaken_15 : decode cX4_isTaken 15 = .ok (.iload 4, 2) := by decide +kernel
theorem dX4_isTaken_17 : decode cX4_isTaken 17 = .ok (.ifCond .ne 31, 3) := by decide +kernel
theorem dX4_isTaken_20 : decode cX4_isTaken 20 = .ok (.iload 5, 2) := by decide +kernel
theorem dX4_isTaken_22 : decode cX4_isTaken 22 = .ok (.iload_n 3, 1) := by decide +kernel
theorem dX4_isTaken_23 : decode cX4_isTaken 23 = .ok (.if_icmp .eq 29, 3) := by decide +kernel
theorem dX4_isTaken_26 : decode cX4_isTaken 26 = .ok (.aload_n 0, 1) := by decide +kernel
theorem dX4_isTaken_27 : decode cX4_isTaken 27 = .ok (.getfield 7, 3) := by decide +kernel
theorem dX4_isTaken_30 : decode cX4_isTaken 30 = .ok (.iload 5, 2) := by decide +kernel
theorem dX4_isTaken_32 : decode cX4_isTaken 32 = .ok (.iaload, 1) := by decide +kernel
theorem dX4_isTaken_33 : decode cX4_isTaken 33 = .ok (.iload_n 1, 1) := by decide +kernel
theorem dX4_isTaken_34 : decode cX4_isTaken 34 = .ok (.if_icmp .ne 18, 3) := by decide +kernel
theorem dX4_isTaken_37 : decode cX4_isTaken 37 = .ok (.aload_n 0, 1) := by decide +kernel
theorem dX4_isTaken_38 : decode cX4_isTaken 38 = .ok (.getfield 13, 3) := by decide +kernel
theorem dX4_isTaken_41 : decode cX4_isTaken 41 = .ok (.iload 5, 2) := by decide +kernel
theorem dX4_isTaken_43 : decode cX4_isTaken 43 = .ok (.iaload, 1) := by decide +kernel
theorem dX4_isTaken_44 : decode cX4_isTaken 44 = .ok (.iload_n 2, 1) := by decide +kernel
theorem dX4_isTaken_45 : decode cX4_isTaken 45 = .ok (.if_icmp .ne 7, 3) := by decide +kernel
theorem dX4_isTaken_48 : decode cX4_isTaken 48 = .ok (.iconst 1, 1) := by decide +kernel
theorem dX4_isTaken_49 : decode cX4_isTaken 49 = .ok (.goto 4, 3) := by decide +kernel
theorem dX4_isTaken_52 : decode cX4_isTaken 52 = .ok (.iconst 0, 1) := by decide +kernel
theorem dX4_isTaken_53 : decode cX4_isTaken 53 = .ok (.istore 4, 2) := by decide +kernel
theorem dX4_isTaken_55 : decode cX4_isTaken 55 = .ok (.iinc 5 1, 3) := by decide +kernel
theorem dX4_isTaken_58 : decode cX4_isTaken 58 = .ok (.goto (-52), 3) := by decide +kernel
theorem dX4_isTaken_61 : decode cX4_isTaken 61 = .ok (.iload 4, 2) := by decide +kernel
theorem dX4_isTaken_63 : decode cX4_isTaken 63 = .ok (.ireturn, 1) := by decide +kernel
set_option maxRecDepth 20000 in
theorem ggX4_site_X4_isFar : GoodIn wsX4_site wsX4_isFar := goodIn_r _ [8] (by decide +kernel) (by decide +kernel)
set_option maxRecDepth 20000 in
theorem gX4_site_X4_isFar : GoodIn wsX4_site (va_wsS RX4 35 yX4_isFar wsX4_isFar) := goodIn_app (goodIn_of _ (by decide +kernel)) ggX4_site_X4_isFar
set_option maxRecDepth 20000 in
theorem ggX4_site_X4_isTaken : GoodIn wsX4_site wsX4_isTaken := goodIn_r _ [12, 1, 2, 3, 18, 19, 20, 21, 22, 23, 24, 25, 26, 27, 28] (by decide +kernel) (by decide +kernel)
set_option maxRecDepth 20000 in
theorem gX4_site_X4_isTaken : GoodIn wsX4_site (wsV RX4 39 RX4 yX4_isTaken wsX4_isTaken) := goodIn_app (goodIn_of _ (by decide +kernel)) ggX4_site_X4_isTaken
set_option maxRecDepth 20000 in
theorem ggX4_site_X4_throwing : GoodIn wsX4_site wsX4_throwing := goodIn_r _ [16, 17, 18, 19, 20, 21, 22, 23, 24, 25, 26, 27, 28] (by decide +kernel) (by decide +kernel)
set_option maxRecDepth 20000 in
theorem gX4_site_X4_throwing : GoodIn wsX4_site (wsV RX4 43 RX4 yX4_throwing wsX4_throwing) := goodIn_app (goodIn_of _ (by decide +kernel)) ggX4_site_X4_throwing
theorem dX4_site_0 : decode cX4_site 0 = .ok (.iload_n 1, 1) := by decide +kernel
theorem dX4_site_1 : decode cX4_site 1 = .ok (.iload_n 2, 1) := by decide +kernel
theorem dX4_site_2 : decode cX4_site 2 = .ok (.invokestatic 35, 3) := by decide +kernel
theorem dX4_site_5 : decode cX4_site 5 = .ok (.ifCond .ne 13, 3) := by decide +kernel
theorem dX4_site_8 : decode cX4_site 8 = .ok (.aload_n 0, 1) := by decide +kernel
theorem dX4_site_9 : decode cX4_site 9 = .ok (.iload_n 1, 1) := by decide +kernel
theorem dX4_site_10 : decode cX4_site 10 = .ok (.iload_n 2, 1) := by decide +kernel
theorem dX4_site_11 : decode cX4_site 11 = .ok (.iconst (-1), 1) := by decide +kernel
theorem dX4_site_12 : decode cX4_site 12 = .ok (.invokevirtual 39, 3) := by decide +kernel
theorem dX4_site_15 : decode cX4_site 15 = .ok (.ifCond .eq 7, 3) := by decide +kernel
theorem dX4_site_18 : decode cX4_site 18 = .ok (.iconst 1, 1) := by decide +kernel
theorem dX4_site_19 : decode cX4_site 19 = .ok (.goto 4, 3) := by decide +kernel
theorem dX4_site_22 : decode cX4_site 22 = .ok (.iconst 0, 1) := by decide +kernel
theorem dX4_site_23 : decode cX4_site 23 = .ok (.istore_n 3, 1) := by decide +kernel
theorem dX4_site_24 : decode cX4_site 24 = .ok (.aload_n 0, 1) := by decide +kernel
theorem dX4_site_25 : decode cX4_site 25 = .ok (.iload_n 3, 1) := by decide +kernel
theorem dX4_site_26 : decode cX4_site 26 = .ok (.iload_n 3, 1) := by decide +kernel
theorem dX4_site_27 : decode cX4_site 27 = .ok (.ifCond .ne 16, 3) := by decide +kernel
theorem dX4_site_30 : decode cX4_site 30 = .ok (.aload_n 0, 1) := by decide +kernel
theorem dX4_site_31 : decode cX4_site 31 = .ok (.getfield 32, 3) := by decide +kernel
theorem dX4_site_34 : decode cX4_site 34 = .ok (.bipush 20, 2) := by decide +kernel
theorem dX4_site_36 : decode cX4_site 36 = .ok (.if_icmp .ne 7, 3) := by decide +kernel
theorem dX4_site_39 : decode cX4_site 39 = .ok (.iconst 1, 1) := by decide +kernel
theorem dX4_site_40 : decode cX4_site 40 = .ok (.goto 4, 3) := by decide +kernel
theorem dX4_site_43 : decode cX4_site 43 = .ok (.iconst 0, 1) := by decide +kernel
theorem dX4_site_44 : decode cX4_site 44 = .ok (.invokevirtual 43, 3) := by decide +kernel
theorem dX4_site_47 : decode cX4_site 47 = .ok (.ifCond .eq 5, 3) := by decide +kernel
theorem dX4_site_50 : decode cX4_site 50 = .ok (.iconst 0, 1) := by decide +kernel
theorem dX4_site_51 : decode cX4_site 51 = .ok (.ireturn, 1) := by decide +kernel
theorem dX4_site_52 : decode cX4_site 52 = .ok (.aload_n 0, 1) := by decide +kernel
theorem dX4_site_53 : decode cX4_site 53 = .ok (.getfield 7, 3) := by decide +kernel
theorem dX4_site_56 : decode cX4_site 56 = .ok (.aload_n 0, 1) := by decide +kernel
theorem dX4_site_57 : decode cX4_site 57 = .ok (.getfield 32, 3) := by decide +kernel
theorem dX4_site_60 : decode cX4_site 60 = .ok (.iload_n 1, 1) := by decide +kernel
theorem dX4_site_61 : decode cX4_site 61 = .ok (.iastore, 1) := by decide +kernel
theorem dX4_site_62 : decode cX4_site 62 = .ok (.aload_n 0, 1) := by decide +kernel
theorem dX4_site_63 : decode cX4_site 63 = .ok (.getfield 13, 3) := by decide +kernel
theorem dX4_site_66 : decode cX4_site 66 = .ok (.aload_n 0, 1) := by decide +kernel
theorem dX4_site_67 : decode cX4_site 67 = .ok (.getfield 32, 3) := by decide +kernel
theorem dX4_site_70 : decode cX4_site 70 = .ok (.iload_n 2, 1) := by decide +kernel
theorem dX4_site_71 : decode cX4_site 71 = .ok (.iastore, 1) := by decide +kernel
theorem dX4_site_72 : decode cX4_site 72 = .ok (.aload_n 0, 1) := by decide +kernel
theorem dX4_site_73 : decode cX4_site 73 = .ok (.dup, 1) := by decide +kernel
theorem dX4_site_74 : decode cX4_site 74 = .ok (.getfield 32, 3) := by decide +kernel
theorem dX4_site_77 : decode cX4_site 77 = .ok (.iconst 1, 1) := by decide +kernel
theorem dX4_site_78 : decode cX4_site 78 = .ok (.iadd, 1) := by decide +kernel
theorem dX4_site_79 : decode cX4_site 79 = .ok (.putfield 32, 3) := by decide +kernel
theorem dX4_site_82 : decode cX4_site 82 = .ok (.aload_n 0, 1) := by decide +kernel
theorem dX4_site_83 : decode cX4_site 83 = .ok (.iconst 0, 1) := by decide +kernel
theorem dX4_site_84 : decode cX4_site 84 = .ok (.putfield 47, 3) := by decide +kernel
theorem dX4_site_87 : decode cX4_site 87 = .ok (.aload_n 0, 1) := by decide +kernel
theorem dX4_site_88 : decode cX4_site 88 = .ok (.getfield 32, 3) := by decide +kernel
theorem dX4_site_91 : decode cX4_site 91 = .ok (.iconst 1, 1) := by decide +kernel
theorem dX4_site_92 : decode cX4_site 92 = .ok (.isub, 1) := by decide +kernel
theorem dX4_site_93 : decode cX4_site 93 = .ok (.ireturn, 1) := by decide +kernel
set_option maxRecDepth 20000 in
theorem ggX4_remove_X4_out : GoodIn wsX4_remove wsX4_out := goodIn_r _ [8] (by decide +kernel) (by decide +kernel)
set_option maxRecDepth 20000 in
theorem gX4_remove_X4_out : GoodIn wsX4_remove (va_wsS RX4 51 yX4_out wsX4_out) := goodIn_app (goodIn_of _ (by decide +kernel)) ggX4_remove_X4_out
set_option maxRecDepth 20000 in
theorem ggX4_remove_X4_throwing : GoodIn wsX4_remove wsX4_throwing := goodIn_r _ [12, 13, 14, 15, 16, 17, 18, 19, 20, 21, 22, 23, 24] (by decide +kernel) (by decide +kernel)
set_option maxRecDepth 20000 in
theorem gX4_remove_X4_throwing : GoodIn wsX4_remove (wsV RX4 43 RX4 yX4_throwing wsX4_throwing) := goodIn_app (goodIn_of _ (by decide +kernel)) ggX4_remove_X4_throwing
theorem dX4_remove_0 : decode cX4_remove 0 = .ok (.aload_n 0, 1) := by decide +kernel
theorem dX4_remove_1 : decode cX4_remove 1 = .ok (.iload_n 1, 1) := by decide +kernel
theorem dX4_remove_2 : decode cX4_remove 2 = .ok (.aload_n 0, 1) := by decide +kernel
theorem dX4_remove_3 : decode cX4_remove 3 = .ok (.getfield 32, 3) := by decide +kernel
theorem dX4_remove_6 : decode cX4_remove 6 = .ok (.invokestatic 51, 3) := by decide +kernel
theorem dX4_remove_9 : decode cX4_remove 9 = .ok (.iconst 0, 1) := by decide +kernel
theorem dX4_remove_10 : decode cX4_remove 10 = .ok (.invokevirtual 43, 3) := by decide +kernel
theorem dX4_remove_13 : decode cX4_remove 13 = .ok (.ifCond .eq 4, 3) := by decide +kernel
theorem dX4_remove_16 : decode cX4_remove 16 = .ok (.return_, 1) := by decide +kernel
theorem dX4_remove_17 : decode cX4_remove 17 = .ok (.iload_n 1, 1) := by decide +kernel
theorem dX4_remove_18 : decode cX4_remove 18 = .ok (.istore_n 2, 1) := by decide +kernel
theorem dX4_remove_19 : decode cX4_remove 19 = .ok (.iload_n 2, 1) := by decide +kernel
theorem dX4_remove_20 : decode cX4_remove 20 = .ok (.iconst 1, 1) := by decide +kernel
theorem dX4_remove_21 : decode cX4_remove 21 = .ok (.iadd, 1) := by decide +kernel
theorem dX4_remove_22 : decode cX4_remove 22 = .ok (.aload_n 0, 1) := by decide +kernel
theorem dX4_remove_23 : decode cX4_remove 23 = .ok (.getfield 32, 3) := by decide +kernel
theorem dX4_remove_26 : decode cX4_remove 26 = .ok (.if_icmp .ge 37, 3) := by decide +kernel
theorem dX4_remove_29 : decode cX4_remove 29 = .ok (.aload_n 0, 1) := by decide +kernel
theorem dX4_remove_30 : decode cX4_remove 30 = .ok (.getfield 7, 3) := by decide +kernel
theorem dX4_remove_33 : decode cX4_remove 33 = .ok (.iload_n 2, 1) := by decide +kernel
theorem dX4_remove_34 : decode cX4_remove 34 = .ok (.aload_n 0, 1) := by decide +kernel
theorem dX4_remove_35 : decode cX4_remove 35 = .ok (.getfield 7, 3) := by decide +kernel
theorem dX4_remove_38 : decode cX4_remove 38 = .ok (.iload_n 2, 1) := by decide +kernel
theorem dX4_remove_39 : decode cX4_remove 39 = .ok (.iconst 1, 1) := by decide +kernel
theorem dX4_remove_40 : decode cX4_remove 40 = .ok (.iadd, 1) := by decide +kernel
theorem dX4_remove_41 : decode cX4_remove 41 = .ok (.iaload, 1) := by decide +kernel
theorem dX4_remove_42 : decode cX4_remove 42 = .ok (.iastore, 1) := by decide +kernel
theorem dX4_remove_43 : decode cX4_remove 43 = .ok (.aload_n 0, 1) := by decide +kernel
theorem dX4_remove_44 : decode cX4_remove 44 = .ok (.getfield 13, 3) := by decide +kernel
theorem dX4_remove_47 : decode cX4_remove 47 = .ok (.iload_n 2, 1) := by decide +kernel
theorem dX4_remove_48 : decode cX4_remove 48 = .ok (.aload_n 0, 1) := by decide +kernel
theorem dX4_remove_49 : decode cX4_remove 49 = .ok (.getfield 13, 3) := by decide +kernel
theorem dX4_remove_52 : decode cX4_remove 52 = .ok (.iload_n 2, 1) := by decide +kernel
theorem dX4_remove_53 : decode cX4_remove 53 = .ok (.iconst 1, 1) := by decide +kernel
theorem dX4_remove_54 : decode cX4_remove 54 = .ok (.iadd, 1) := by decide +kernel
theorem dX4_remove_55 : decode cX4_remove 55 = .ok (.iaload, 1) := by decide +kernel
theorem dX4_remove_56 : decode cX4_remove 56 = .ok (.iastore, 1) := by decide +kernel
theorem dX4_remove_57 : decode cX4_remove 57 = .ok (.iinc 2 1, 3) := by decide +kernel
theorem dX4_remove_60 : decode cX4_remove 60 = .ok (.goto (-41), 3) := by decide +kernel
theorem dX4_remove_63 : decode cX4_remove 63 = .ok (.aload_n 0, 1) := by decide +kernel
theorem dX4_remove_64 : decode cX4_remove 64 = .ok (.dup, 1) := by decide +kernel
theorem dX4_remove_65 : decode cX4_remove 65 = .ok (.getfield 32, 3) := by decide +kernel
theorem dX4_remove_68 : decode cX4_remove 68 = .ok (.iconst 1, 1) := by decide +kernel
theorem dX4_remove_69 : decode cX4_remove 69 = .ok (.isub, 1) := by decide +kernel
theorem dX4_remove_70 : decode cX4_remove 70 = .ok (.putfield 32, 3) := by decide +kernel
theorem dX4_remove_73 : decode cX4_remove 73 = .ok (.aload_n 0, 1) := by decide +kernel
theorem dX4_remove_74 : decode cX4_remove 74 = .ok (.iconst 0, 1) := by decide +kernel
theorem dX4_remove_75 : decode cX4_remove 75 = .ok (.putfield 47, 3) := by decide +kernel
theorem dX4_remove_78 : decode cX4_remove 78 = .ok (.return_, 1) := by decide +kernel
set_option maxRecDepth 20000 in
theorem ggX4_move_X4_out : GoodIn wsX4_move wsX4_out := goodIn_r _ [8] (by decide +kernel) (by decide +kernel)
set_option maxRecDepth 20000 in
theorem gX4_move_X4_out : GoodIn wsX4_move (va_wsS RX4 51 yX4_out wsX4_out) := goodIn_app (goodIn_of _ (by decide +kernel)) ggX4_move_X4_out
set_option maxRecDepth 20000 in
theorem ggX4_move_X4_isFar : GoodIn wsX4_move wsX4_isFar := goodIn_r _ [11] (by decide +kernel) (by decide +kernel)
set_option maxRecDepth 20000 in
theorem gX4_move_X4_isFar : GoodIn wsX4_move (va_wsS RX4 35 yX4_isFar wsX4_isFar) := goodIn_app (goodIn_of _ (by decide +kernel)) ggX4_move_X4_isFar
set_option maxRecDepth 20000 in
theorem ggX4_move_X4_isTaken : GoodIn wsX4_move wsX4_isTaken := goodIn_r _ [15, 1, 2, 3, 21, 22, 23, 24, 25, 26, 27, 28, 29, 30, 31] (by decide +kernel) (by decide +kernel)
set_option maxRecDepth 20000 in
theorem gX4_move_X4_isTaken : GoodIn wsX4_move (wsV RX4 39 RX4 yX4_isTaken wsX4_isTaken) := goodIn_app (goodIn_of _ (by decide +kernel)) ggX4_move_X4_isTaken
set_option maxRecDepth 20000 in
theorem ggX4_move_X4_throwing : GoodIn wsX4_move wsX4_throwing := goodIn_r _ [19, 20, 21, 22, 23, 24, 25, 26, 27, 28, 29, 30, 31] (by decide +kernel) (by decide +kernel)
set_option maxRecDepth 20000 in
theorem gX4_move_X4_throwing : GoodIn wsX4_move (wsV RX4 43 RX4 yX4_throwing wsX4_throwing) := goodIn_app (goodIn_of _ (by decide +kernel)) ggX4_move_X4_throwing
theorem dX4_move_0 : decode cX4_move 0 = .ok (.aload_n 0, 1) := by decide +kernel
theorem dX4_move_1 : decode cX4_move 1 = .ok (.iload_n 1, 1) := by decide +kernel
theorem dX4_move_2 : decode cX4_move 2 = .ok (.aload_n 0, 1) := by decide +kernel
theorem dX4_move_3 : decode cX4_move 3 = .ok (.getfield 32, 3) := by decide +kernel
theorem dX4_move_6 : decode cX4_move 6 = .ok (.invokestatic 51, 3) := by decide +kernel
theorem dX4_move_9 : decode cX4_move 9 = .ok (.ifCond .ne 21, 3) := by decide +kernel
theorem dX4_move_12 : decode cX4_move 12 = .ok (.iload_n 2, 1) := by decide +kernel
theorem dX4_move_13 : decode cX4_move 13 = .ok (.iload_n 3, 1) := by decide +kernel
theorem dX4_move_14 : decode cX4_move 14 = .ok (.invokestatic 35, 3) := by decide +kernel
theorem dX4_move_17 : decode cX4_move 17 = .ok (.ifCond .ne 13, 3) := by decide +kernel
theorem dX4_move_20 : decode cX4_move 20 = .ok (.aload_n 0, 1) := by decide +kernel
theorem dX4_move_21 : decode cX4_move 21 = .ok (.iload_n 2, 1) := by decide +kernel
theorem dX4_move_22 : decode cX4_move 22 = .ok (.iload_n 3, 1) := by decide +kernel
theorem dX4_move_23 : decode cX4_move 23 = .ok (.iload_n 1, 1) := by decide +kernel
theorem dX4_move_24 : decode cX4_move 24 = .ok (.invokevirtual 39, 3) := by decide +kernel
theorem dX4_move_27 : decode cX4_move 27 = .ok (.ifCond .eq 7, 3) := by decide +kernel
theorem dX4_move_30 : decode cX4_move 30 = .ok (.iconst 1, 1) := by decide +kernel
theorem dX4_move_31 : decode cX4_move 31 = .ok (.goto 4, 3) := by decide +kernel
theorem dX4_move_34 : decode cX4_move 34 = .ok (.iconst 0, 1) := by decide +kernel
theorem dX4_move_35 : decode cX4_move 35 = .ok (.iconst 0, 1) := by decide +kernel
theorem dX4_move_36 : decode cX4_move 36 = .ok (.invokevirtual 43, 3) := by decide +kernel
theorem dX4_move_39 : decode cX4_move 39 = .ok (.ifCond .eq 4, 3) := by decide +kernel
theorem dX4_move_42 : decode cX4_move 42 = .ok (.return_, 1) := by decide +kernel
theorem dX4_move_43 : decode cX4_move 43 = .ok (.aload_n 0, 1) := by decide +kernel
theorem dX4_move_44 : decode cX4_move 44 = .ok (.getfield 7, 3) := by decide +kernel
theorem dX4_move_47 : decode cX4_move 47 = .ok (.iload_n 1, 1) := by decide +kernel
theorem dX4_move_48 : decode cX4_move 48 = .ok (.iload_n 2, 1) := by decide +kernel
theorem dX4_move_49 : decode cX4_move 49 = .ok (.iastore, 1) := by decide +kernel
theorem dX4_move_50 : decode cX4_move 50 = .ok (.aload_n 0, 1) := by decide +kernel
theorem dX4_move_51 : decode cX4_move 51 = .ok (.getfield 13, 3) := by decide +kernel
theorem dX4_move_54 : decode cX4_move 54 = .ok (.iload_n 1, 1) := by decide +kernel
theorem dX4_move_55 : decode cX4_move 55 = .ok (.iload_n 3, 1) := by decide +kernel
theorem dX4_move_56 : decode cX4_move 56 = .ok (.iastore, 1) := by decide +kernel
theorem dX4_move_57 : decode cX4_move 57 = .ok (.aload_n 0, 1) := by decide +kernel
theorem dX4_move_58 : decode cX4_move 58 = .ok (.iconst 0, 1) := by decide +kernel
theorem dX4_move_59 : decode cX4_move 59 = .ok (.putfield 47, 3) := by decide +kernel
theorem dX4_move_62 : decode cX4_move 62 = .ok (.return_, 1) := by decide +kernel
theorem dX4_clear_0 : decode cX4_clear 0 = .ok (.aload_n 0, 1) := by decide +kernel
theorem dX4_clear_1 : decode cX4_clear 1 = .ok (.iconst 0, 1) := by decide +kernel
theorem dX4_clear_2 : decode cX4_clear 2 = .ok (.putfield 28, 3) := by decide +kernel
theorem dX4_clear_5 : decode cX4_clear 5 = .ok (.aload_n 0, 1) := by decide +kernel
theorem dX4_clear_6 : decode cX4_clear 6 = .ok (.iconst 0, 1) := by decide +kernel
theorem dX4_clear_7 : decode cX4_clear 7 = .ok (.putfield 32, 3) := by decide +kernel
theorem dX4_clear_10 : decode cX4_clear 10 = .ok (.aload_n 0, 1) := by decide +kernel
theorem dX4_clear_11 : decode cX4_clear 11 = .ok (.iconst 0, 1) := by decide +kernel
theorem dX4_clear_12 : decode cX4_clear 12 = .ok (.putfield 47, 3) := by decide +kernel
theorem dX4_clear_15 : decode cX4_clear 15 = .ok (.return_, 1) := by decide +kernel
set_option maxRecDepth 20000 in
theorem ggX4_where_X4_out : GoodIn wsX4_where wsX4_out := goodIn_r _ [7] (by decide +kernel) (by decide +kernel)
set_option maxRecDepth 20000 in
theorem gX4_where_X4_out : GoodIn wsX4_where (va_wsS RX4 51 yX4_out wsX4_out) := goodIn_app (goodIn_of _ (by decide +kernel)) ggX4_where_X4_out
set_option maxRecDepth 20000 in
theorem ggX4_where_X4_throwing : GoodIn wsX4_where wsX4_throwing := goodIn_r _ [11, 12, 13, 14, 15, 16, 17, 18, 19, 20, 21, 22, 23] (by decide +kernel) (by decide +kernel)
set_option maxRecDepth 20000 in
theorem gX4_where_X4_throwing : GoodIn wsX4_where (wsV RX4 43 RX4 yX4_throwing wsX4_throwing) := goodIn_app (goodIn_of _ (by decide +kernel)) ggX4_where_X4_throwing
theorem dX4_where_0 : decode cX4_where 0 = .ok (.aload_n 0, 1) := by decide +kernel
theorem dX4_where_1 : decode cX4_where 1 = .ok (.iload_n 1, 1) := by decide +kernel
theorem dX4_where_2 : decode cX4_where 2 = .ok (.aload_n 0, 1) := by decide +kernel
theorem dX4_where_3 : decode cX4_where 3 = .ok (.getfield 32, 3) := by decide +kernel
theorem dX4_where_6 : decode cX4_where 6 = .ok (.invokestatic 51, 3) := by decide +kernel
theorem dX4_where_9 : decode cX4_where 9 = .ok (.ifCond .ne 11, 3) := by decide +kernel
theorem dX4_where_12 : decode cX4_where 12 = .ok (.iload_n 2, 1) := by decide +kernel
theorem dX4_where_13 : decode cX4_where 13 = .ok (.iconst 2, 1) := by decide +kernel
theorem dX4_where_14 : decode cX4_where 14 = .ok (.invokestatic 51, 3) := by decide +kernel
theorem dX4_where_17 : decode cX4_where 17 = .ok (.ifCond .eq 7, 3) := by decide +kernel
theorem dX4_where_20 : decode cX4_where 20 = .ok (.iconst 1, 1) := by decide +kernel
theorem dX4_where_21 : decode cX4_where 21 = .ok (.goto 4, 3) := by decide +kernel
theorem dX4_where_24 : decode cX4_where 24 = .ok (.iconst 0, 1) := by decide +kernel
theorem dX4_where_25 : decode cX4_where 25 = .ok (.iconst 0, 1) := by decide +kernel
theorem dX4_where_26 : decode cX4_where 26 = .ok (.invokevirtual 43, 3) := by decide +kernel
theorem dX4_where_29 : decode cX4_where 29 = .ok (.ifCond .eq 5, 3) := by decide +kernel
theorem dX4_where_32 : decode cX4_where 32 = .ok (.iconst 0, 1) := by decide +kernel
theorem dX4_where_33 : decode cX4_where 33 = .ok (.ireturn, 1) := by decide +kernel
theorem dX4_where_34 : decode cX4_where 34 = .ok (.iload_n 2, 1) := by decide +kernel
theorem dX4_where_35 : decode cX4_where 35 = .ok (.ifCond .ne 12, 3) := by decide +kernel
theorem dX4_where_38 : decode cX4_where 38 = .ok (.aload_n 0, 1) := by decide +kernel
theorem dX4_where_39 : decode cX4_where 39 = .ok (.getfield 7, 3) := by decide +kernel
theorem dX4_where_42 : decode cX4_where 42 = .ok (.iload_n 1, 1) := by decide +kernel
theorem dX4_where_43 : decode cX4_where 43 = .ok (.iaload, 1) := by decide +kernel
theorem dX4_where_44 : decode cX4_where 44 = .ok (.goto 9, 3) := by decide +kernel
theorem dX4_where_47 : decode cX4_where 47 = .ok (.aload_n 0, 1) := by decide +kernel
theorem dX4_where_48 : decode cX4_where 48 = .ok (.getfield 13, 3) := by decide +kernel
theorem dX4_where_51 : decode cX4_where 51 = .ok (.iload_n 1, 1) := by decide +kernel
theorem dX4_where_52 : decode cX4_where 52 = .ok (.iaload, 1) := by decide +kernel
theorem dX4_where_53 : decode cX4_where 53 = .ok (.ireturn, 1) := by decide +kernel
theorem dX4_turn_0 : decode cX4_turn 0 = .ok (.aload_n 0, 1) := by decide +kernel
theorem dX4_turn_1 : decode cX4_turn 1 = .ok (.getfield 7, 3) := by decide +kernel
theorem dX4_turn_4 : decode cX4_turn 4 = .ok (.iload_n 2, 1) := by decide +kernel
theorem dX4_turn_5 : decode cX4_turn 5 = .ok (.iaload, 1) := by decide +kernel
theorem dX4_turn_6 : decode cX4_turn 6 = .ok (.aload_n 0, 1) := by decide +kernel
theorem dX4_turn_7 : decode cX4_turn 7 = .ok (.getfield 7, 3) := by decide +kernel
theorem dX4_turn_10 : decode cX4_turn 10 = .ok (.iload_n 1, 1) := by decide +kernel
theorem dX4_turn_11 : decode cX4_turn 11 = .ok (.iaload, 1) := by decide +kernel
theorem dX4_turn_12 : decode cX4_turn 12 = .ok (.isub, 1) := by decide +kernel
theorem dX4_turn_13 : decode cX4_turn 13 = .ok (.i2l, 1) := by decide +kernel
theorem dX4_turn_14 : decode cX4_turn 14 = .ok (.iload 4, 2) := by decide +kernel
theorem dX4_turn_16 : decode cX4_turn 16 = .ok (.aload_n 0, 1) := by decide +kernel
theorem dX4_turn_17 : decode cX4_turn 17 = .ok (.getfield 13, 3) := by decide +kernel
theorem dX4_turn_20 : decode cX4_turn 20 = .ok (.iload_n 1, 1) := by decide +kernel
theorem dX4_turn_21 : decode cX4_turn 21 = .ok (.iaload, 1) := by decide +kernel
theorem dX4_turn_22 : decode cX4_turn 22 = .ok (.isub, 1) := by decide +kernel
theorem dX4_turn_23 : decode cX4_turn 23 = .ok (.i2l, 1) := by decide +kernel
theorem dX4_turn_24 : decode cX4_turn 24 = .ok (.lmul, 1) := by decide +kernel
theorem dX4_turn_25 : decode cX4_turn 25 = .ok (.aload_n 0, 1) := by decide +kernel
theorem dX4_turn_26 : decode cX4_turn 26 = .ok (.getfield 13, 3) := by decide +kernel
theorem dX4_turn_29 : decode cX4_turn 29 = .ok (.iload_n 2, 1) := by decide +kernel
theorem dX4_turn_30 : decode cX4_turn 30 = .ok (.iaload, 1) := by decide +kernel
theorem dX4_turn_31 : decode cX4_turn 31 = .ok (.aload_n 0, 1) := by decide +kernel
theorem dX4_turn_32 : decode cX4_turn 32 = .ok (.getfield 13, 3) := by decide +kernel
theorem dX4_turn_35 : decode cX4_turn 35 = .ok (.iload_n 1, 1) := by decide +kernel
theorem dX4_turn_36 : decode cX4_turn 36 = .ok (.iaload, 1) := by decide +kernel
theorem dX4_turn_37 : decode cX4_turn 37 = .ok (.isub, 1) := by decide +kernel
theorem dX4_turn_38 : decode cX4_turn 38 = .ok (.i2l, 1) := by decide +kernel
theorem dX4_turn_39 : decode cX4_turn 39 = .ok (.iload_n 3, 1) := by decide +kernel
theorem dX4_turn_40 : decode cX4_turn 40 = .ok (.aload_n 0, 1) := by decide +kernel
theorem dX4_turn_41 : decode cX4_turn 41 = .ok (.getfield 7, 3) := by decide +kernel
theorem dX4_turn_44 : decode cX4_turn 44 = .ok (.iload_n 1, 1) := by decide +kernel
theorem dX4_turn_45 : decode cX4_turn 45 = .ok (.iaload, 1) := by decide +kernel
theorem dX4_turn_46 : decode cX4_turn 46 = .ok (.isub, 1) := by decide +kernel
theorem dX4_turn_47 : decode cX4_turn 47 = .ok (.i2l, 1) := by decide +kernel
theorem dX4_turn_48 : decode cX4_turn 48 = .ok (.lmul, 1) := by decide +kernel
theorem dX4_turn_49 : decode cX4_turn 49 = .ok (.lsub, 1) := by decide +kernel
theorem dX4_turn_50 : decode cX4_turn 50 = .ok (.lreturn, 1) := by decide +kernel
theorem dX4_square_0 : decode cX4_square 0 = .ok (.aload_n 0, 1) := by decide +kernel
theorem dX4_square_1 : decode cX4_square 1 = .ok (.getfield 7, 3) := by decide +kernel
theorem dX4_square_4 : decode cX4_square 4 = .ok (.iload_n 1, 1) := by decide +kernel
theorem dX4_square_5 : decode cX4_square 5 = .ok (.iaload, 1) := by decide +kernel
theorem dX4_square_6 : decode cX4_square 6 = .ok (.aload_n 0, 1) := by decide +kernel
theorem dX4_square_7 : decode cX4_square 7 = .ok (.getfield 7, 3) := by decide +kernel
theorem dX4_square_10 : decode cX4_square 10 = .ok (.iload_n 2, 1) := by decide +kernel
theorem dX4_square_11 : decode cX4_square 11 = .ok (.iaload, 1) := by decide +kernel
theorem dX4_square_12 : decode cX4_square 12 = .ok (.isub, 1) := by decide +kernel
theorem dX4_square_13 : decode cX4_square 13 = .ok (.i2l, 1) := by decide +kernel
theorem dX4_square_14 : decode cX4_square 14 = .ok (.aload_n 0, 1) := by decide +kernel
theorem dX4_square_15 : decode cX4_square 15 = .ok (.getfield 7, 3) := by decide +kernel
theorem dX4_square_18 : decode cX4_square 18 = .ok (.iload_n 1, 1) := by decide +kernel
theorem dX4_square_19 : decode cX4_square 19 = .ok (.iaload, 1) := by decide +kernel
theorem dX4_square_20 : decode cX4_square 20 = .ok (.aload_n 0, 1) := by decide +kernel
theorem dX4_square_21 : decode cX4_square 21 = .ok (.getfield 7, 3) := by decide +kernel
theorem dX4_square_24 : decode cX4_square 24 = .ok (.iload_n 2, 1) := by decide +kernel
theorem dX4_square_25 : decode cX4_square 25 = .ok (.iaload, 1) := by decide +kernel
theorem dX4_square_26 : decode cX4_square 26 = .ok (.isub, 1) := by decide +kernel
theorem dX4_square_27 : decode cX4_square 27 = .ok (.i2l, 1) := by decide +kernel
theorem dX4_square_28 : decode cX4_square 28 = .ok (.lmul, 1) := by decide +kernel
theorem dX4_square_29 : decode cX4_square 29 = .ok (.aload_n 0, 1) := by decide +kernel
theorem dX4_square_30 : decode cX4_square 30 = .ok (.getfield 13, 3) := by decide +kernel
theorem dX4_square_33 : decode cX4_square 33 = .ok (.iload_n 1, 1) := by decide +kernel
theorem dX4_square_34 : decode cX4_square 34 = .ok (.iaload, 1) := by decide +kernel
theorem dX4_square_35 : decode cX4_square 35 = .ok (.aload_n 0, 1) := by decide +kernel
theorem dX4_square_36 : decode cX4_square 36 = .ok (.getfield 13, 3) := by decide +kernel
theorem dX4_square_39 : decode cX4_square 39 = .ok (.iload_n 2, 1) := by decide +kernel
theorem dX4_square_40 : decode cX4_square 40 = .ok (.iaload, 1) := by decide +kernel
theorem dX4_square_41 : decode cX4_square 41 = .ok (.isub, 1) := by decide +kernel
theorem dX4_square_42 : decode cX4_square 42 = .ok (.i2l, 1) := by decide +kernel
theorem dX4_square_43 : decode cX4_square 43 = .ok (.aload_n 0, 1) := by decide +kernel
theorem dX4_square_44 : decode cX4_square 44 = .ok (.getfield 13, 3) := by decide +kernel
theorem dX4_square_47 : decode cX4_square 47 = .ok (.iload_n 1, 1) := by decide +kernel
theorem dX4_square_48 : decode cX4_square 48 = .ok (.iaload, 1) := by decide +kernel
theorem dX4_square_49 : decode cX4_square 49 = .ok (.aload_n 0, 1) := by decide +kernel
theorem dX4_square_50 : decode cX4_square 50 = .ok (.getfield 13, 3) := by decide +kernel
theorem dX4_square_53 : decode cX4_square 53 = .ok (.iload_n 2, 1) := by decide +kernel
theorem dX4_square_54 : decode cX4_square 54 = .ok (.iaload, 1) := by decide +kernel
theorem dX4_square_55 : decode cX4_square 55 = .ok (.isub, 1) := by decide +kernel
theorem dX4_square_56 : decode cX4_square 56 = .ok (.i2l, 1) := by decide +kernel
theorem dX4_square_57 : decode cX4_square 57 = .ok (.lmul, 1) := by decide +kernel
theorem dX4_square_58 : decode cX4_square 58 = .ok (.ladd, 1) := by decide +kernel
theorem dX4_square_59 : decode cX4_square 59 = .ok (.lreturn, 1) := by decide +kernel
set_option maxRecDepth 20000 in
theorem ggX4_power_X4_square : GoodIn wsX4_power wsX4_square := goodIn_r _ [7, 1, 2, 8, 9, 10, 11, 12, 13, 14, 15, 16, 17, 18] (by decide +kernel) (by decide +kernel)
set_option maxRecDepth 20000 in
theorem gX4_power_X4_square : GoodIn wsX4_power (wsV RX4 54 RX4 yX4_square wsX4_square) := goodIn_app (goodIn_of _ (by decide +kernel)) ggX4_power_X4_square
theorem dX4_power_0 : decode cX4_power 0 = .ok (.aload_n 0, 1) := by decide +kernel
theorem dX4_power_1 : decode cX4_power 1 = .ok (.getfield 7, 3) := by decide +kernel
theorem dX4_power_4 : decode cX4_power 4 = .ok (.iload_n 2, 1) := by decide +kernel
theorem dX4_power_5 : decode cX4_power 5 = .ok (.iaload, 1) := by decide +kernel
theorem dX4_power_6 : decode cX4_power 6 = .ok (.aload_n 0, 1) := by decide +kernel
theorem dX4_power_7 : decode cX4_power 7 = .ok (.getfield 7, 3) := by decide +kernel
theorem dX4_power_10 : decode cX4_power 10 = .ok (.iload_n 1, 1) := by decide +kernel
theorem dX4_power_11 : decode cX4_power 11 = .ok (.iaload, 1) := by decide +kernel
theorem dX4_power_12 : decode cX4_power 12 = .ok (.isub, 1) := by decide +kernel
theorem dX4_power_13 : decode cX4_power 13 = .ok (.i2l, 1) := by decide +kernel
theorem dX4_power_14 : decode cX4_power 14 = .ok (.lstore 5, 2) := by decide +kernel
theorem dX4_power_16 : decode cX4_power 16 = .ok (.aload_n 0, 1) := by decide +kernel
theorem dX4_power_17 : decode cX4_power 17 = .ok (.getfield 13, 3) := by decide +kernel
theorem dX4_power_20 : decode cX4_power 20 = .ok (.iload_n 2, 1) := by decide +kernel
theorem dX4_power_21 : decode cX4_power 21 = .ok (.iaload, 1) := by decide +kernel
theorem dX4_power_22 : decode cX4_power 22 = .ok (.aload_n 0, 1) := by decide +kernel
theorem dX4_power_23 : decode cX4_power 23 = .ok (.getfield 13, 3) := by decide +kernel
theorem dX4_power_26 : decode cX4_power 26 = .ok (.iload_n 1, 1) := by decide +kernel
theorem dX4_power_27 : decode cX4_power 27 = .ok (.iaload, 1) := by decide +kernel
theorem dX4_power_28 : decode cX4_power 28 = .ok (.isub, 1) := by decide +kernel
theorem dX4_power_29 : decode cX4_power 29 = .ok (.i2l, 1) := by decide +kernel
theorem dX4_power_30 : decode cX4_power 30 = .ok (.lstore 7, 2) := by decide +kernel
theorem dX4_power_32 : decode cX4_power 32 = .ok (.aload_n 0, 1) := by decide +kernel
theorem dX4_power_33 : decode cX4_power 33 = .ok (.getfield 7, 3) := by decide +kernel
theorem dX4_power_36 : decode cX4_power 36 = .ok (.iload_n 3, 1) := by decide +kernel
theorem dX4_power_37 : decode cX4_power 37 = .ok (.iaload, 1) := by decide +kernel
theorem dX4_power_38 : decode cX4_power 38 = .ok (.aload_n 0, 1) := by decide +kernel
theorem dX4_power_39 : decode cX4_power 39 = .ok (.getfield 7, 3) := by decide +kernel
theorem dX4_power_42 : decode cX4_power 42 = .ok (.iload_n 1, 1) := by decide +kernel
theorem dX4_power_43 : decode cX4_power 43 = .ok (.iaload, 1) := by decide +kernel
theorem dX4_power_44 : decode cX4_power 44 = .ok (.isub, 1) := by decide +kernel
theorem dX4_power_45 : decode cX4_power 45 = .ok (.i2l, 1) := by decide +kernel
theorem dX4_power_46 : decode cX4_power 46 = .ok (.lstore 9, 2) := by decide +kernel
theorem dX4_power_48 : decode cX4_power 48 = .ok (.aload_n 0, 1) := by decide +kernel
theorem dX4_power_49 : decode cX4_power 49 = .ok (.getfield 13, 3) := by decide +kernel
theorem dX4_power_52 : decode cX4_power 52 = .ok (.iload_n 3, 1) := by decide +kernel
theorem dX4_power_53 : decode cX4_power 53 = .ok (.iaload, 1) := by decide +kernel
theorem dX4_power_54 : decode cX4_power 54 = .ok (.aload_n 0, 1) := by decide +kernel
theorem dX4_power_55 : decode cX4_power 55 = .ok (.getfield 13, 3) := by decide +kernel
theorem dX4_power_58 : decode cX4_power 58 = .ok (.iload_n 1, 1) := by decide +kernel
theorem dX4_power_59 : decode cX4_power 59 = .ok (.iaload, 1) := by decide +kernel
theorem dX4_power_60 : decode cX4_power 60 = .ok (.isub, 1) := by decide +kernel
theorem dX4_power_61 : decode cX4_power 61 = .ok (.i2l, 1) := by decide +kernel
theorem dX4_power_62 : decode cX4_power 62 = .ok (.lstore 11, 2) := by decide +kernel
theorem dX4_power_64 : decode cX4_power 64 = .ok (.lload 5, 2) := by decide +kernel
theorem dX4_power_66 : decode cX4_power 66 = .ok (.lload 11, 2) := by decide +kernel
theorem dX4_power_68 : decode cX4_power 68 = .ok (.lmul, 1) := by decide +kernel
theorem dX4_power_69 : decode cX4_power 69 = .ok (.lload 7, 2) := by decide +kernel
theorem dX4_power_71 : decode cX4_power 71 = .ok (.lload 9, 2) := by decide +kernel
theorem dX4_power_73 : decode cX4_power 73 = .ok (.lmul, 1) := by decide +kernel
theorem dX4_power_74 : decode cX4_power 74 = .ok (.lsub, 1) := by decide +kernel
theorem dX4_power_75 : decode cX4_power 75 = .ok (.lstore 13, 2) := by decide +kernel
theorem dX4_power_77 : decode cX4_power 77 = .ok (.aload_n 0, 1) := by decide +kernel
theorem dX4_power_78 : decode cX4_power 78 = .ok (.iload_n 1, 1) := by decide +kernel
theorem dX4_power_79 : decode cX4_power 79 = .ok (.iload_n 2, 1) := by decide +kernel
theorem dX4_power_80 : decode cX4_power 80 = .ok (.invokevirtual 54, 3) := by decide +kernel
theorem dX4_power_83 : decode cX4_power 83 = .ok (.lload 11, 2) := by decide +kernel
theorem dX4_power_85 : decode cX4_power 85 = .ok (.lmul, 1) := by decide +kernel
theorem dX4_power_86 : decode cX4_power 86 = .ok (.aload_n 0, 1) := by decide +kernel
theorem dX4_power_87 : decode cX4_power 87 = .ok (.iload_n 1, 1) := by decide +kernel
theorem dX4_power_88 : decode cX4_power 88 = .ok (.iload_n 3, 1) := by decide +kernel
theorem dX4_power_89 : decode cX4_power 89 = .ok (.invokevirtual 54, 3) := by decide +kernel
theorem dX4_power_92 : decode cX4_power 92 = .ok (.lload 7, 2) := by decide +kernel
theorem dX4_power_94 : decode cX4_power 94 = .ok (.lmul, 1) := by decide +kernel
theorem dX4_power_95 : decode cX4_power 95 = .ok (.lsub, 1) := by decide +kernel
theorem dX4_power_96 : decode cX4_power 96 = .ok (.lstore 15, 2) := by decide +kernel
theorem dX4_power_98 : decode cX4_power 98 = .ok (.aload_n 0, 1) := by decide +kernel
theorem dX4_power_99 : decode cX4_power 99 = .ok (.iload_n 1, 1) := by decide +kernel
theorem dX4_power_100 : decode cX4_power 100 = .ok (.iload_n 3, 1) := by decide +kernel
theorem dX4_power_101 : decode cX4_power 101 = .ok (.invokevirtual 54, 3) := by decide +kernel
theorem dX4_power_104 : decode cX4_power 104 = .ok (.lload 5, 2) := by decide +kernel
theorem dX4_power_106 : decode cX4_power 106 = .ok (.lmul, 1) := by decide +kernel
theorem dX4_power_107 : decode cX4_power 107 = .ok (.aload_n 0, 1) := by decide +kernel
theorem dX4_power_108 : decode cX4_power 108 = .ok (.iload_n 1, 1) := by decide +kernel
theorem dX4_power_109 : decode cX4_power 109 = .ok (.iload_n 2, 1) := by decide +kernel
theorem dX4_power_110 : decode cX4_power 110 = .ok (.invokevirtual 54, 3) := by decide +kernel
theorem dX4_power_113 : decode cX4_power 113 = .ok (.lload 9, 2) := by decide +kernel
theorem dX4_power_115 : decode cX4_power 115 = .ok (.lmul, 1) := by decide +kernel
theorem dX4_power_116 : decode cX4_power 116 = .ok (.lsub, 1) := by decide +kernel
theorem dX4_power_117 : decode cX4_power 117 = .ok (.lstore 17, 2) := by decide +kernel
theorem dX4_power_119 : decode cX4_power 119 = .ok (.lload 15, 2) := by decide +kernel
theorem dX4_power_121 : decode cX4_power 121 = .ok (.aload_n 0, 1) := by decide +kernel
theorem dX4_power_122 : decode cX4_power 122 = .ok (.getfield 7, 3) := by decide +kernel
theorem dX4_power_125 : decode cX4_power 125 = .ok (.iload 4, 2) := by decide +kernel
theorem dX4_power_127 : decode cX4_power 127 = .ok (.iaload, 1) := by decide +kernel
theorem dX4_power_128 : decode cX4_power 128 = .ok (.aload_n 0, 1) := by decide +kernel
theorem dX4_power_129 : decode cX4_power 129 = .ok (.getfield 7, 3) := by decide +kernel
theorem dX4_power_132 : decode cX4_power 132 = .ok (.iload_n 1, 1) := by decide +kernel
theorem dX4_power_133 : decode cX4_power 133 = .ok (.iaload, 1) := by decide +kernel
theorem dX4_power_134 : decode cX4_power 134 = .ok (.isub, 1) := by decide +kernel
theorem dX4_power_135 : decode cX4_power 135 = .ok (.i2l, 1) := by decide +kernel
theorem dX4_power_136 : decode cX4_power 136 = .ok (.lmul, 1) := by decide +kernel
theorem dX4_power_137 : decode cX4_power 137 = .ok (.lload 17, 2) := by decide +kernel
theorem dX4_power_139 : decode cX4_power 139 = .ok (.aload_n 0, 1) := by decide +kernel
theorem dX4_power_140 : decode cX4_power 140 = .ok (.getfield 13, 3) := by decide +kernel
theorem dX4_power_143 : decode cX4_power 143 = .ok (.iload 4, 2) := by decide +kernel
theorem dX4_power_145 : decode cX4_power 145 = .ok (.iaload, 1) := by decide +kernel
theorem dX4_power_146 : decode cX4_power 146 = .ok (.aload_n 0, 1) := by decide +kernel
theorem dX4_power_147 : decode cX4_power 147 = .ok (.getfield 13, 3) := by decide +kernel
theorem dX4_power_150 : decode cX4_power 150 = .ok (.iload_n 1, 1) := by decide +kernel
theorem dX4_power_151 : decode cX4_power 151 = .ok (.iaload, 1) := by decide +kernel
theorem dX4_power_152 : decode cX4_power 152 = .ok (.isub, 1) := by decide +kernel
theorem dX4_power_153 : decode cX4_power 153 = .ok (.i2l, 1) := by decide +kernel
theorem dX4_power_154 : decode cX4_power 154 = .ok (.lmul, 1) := by decide +kernel
theorem dX4_power_155 : decode cX4_power 155 = .ok (.ladd, 1) := by decide +kernel
theorem dX4_power_156 : decode cX4_power 156 = .ok (.lload 13, 2) := by decide +kernel
theorem dX4_power_158 : decode cX4_power 158 = .ok (.aload_n 0, 1) := by decide +kernel
theorem dX4_power_159 : decode cX4_power 159 = .ok (.iload_n 1, 1) := by decide +kernel
theorem dX4_power_160 : decode cX4_power 160 = .ok (.iload 4, 2) := by decide +kernel
theorem dX4_power_162 : decode cX4_power 162 = .ok (.invokevirtual 54, 3) := by decide +kernel
theorem dX4_power_165 : decode cX4_power 165 = .ok (.lmul, 1) := by decide +kernel
theorem dX4_power_166 : decode cX4_power 166 = .ok (.lsub, 1) := by decide +kernel
theorem dX4_power_167 : decode cX4_power 167 = .ok (.lstore 19, 2) := by decide +kernel
theorem dX4_power_169 : decode cX4_power 169 = .ok (.lload 13, 2) := by decide +kernel
theorem dX4_power_171 : decode cX4_power 171 = .ok (.lconst 0, 1) := by decide +kernel
theorem dX4_power_172 : decode cX4_power 172 = .ok (.lcmp, 1) := by decide +kernel
theorem dX4_power_173 : decode cX4_power 173 = .ok (.ifCond .le 8, 3) := by decide +kernel
theorem dX4_power_176 : decode cX4_power 176 = .ok (.lload 19, 2) := by decide +kernel
theorem dX4_power_178 : decode cX4_power 178 = .ok (.goto 6, 3) := by decide +kernel
theorem dX4_power_181 : decode cX4_power 181 = .ok (.lload 19, 2) := by decide +kernel
theorem dX4_power_183 : decode cX4_power 183 = .ok (.lneg, 1) := by decide +kernel
theorem dX4_power_184 : decode cX4_power 184 = .ok (.lreturn, 1) := by decide +kernel
set_option maxRecDepth 20000 in
theorem ggX4_onCircle_X4_power : GoodIn wsX4_onCircle wsX4_power := goodIn_r _ [6, 7, 8, 9, 10, 11, 5, 12, 13, 14, 15, 16, 17, 18, 19, 20, 21, 22, 23] (by decide +kernel) (by decide +kernel)
set_option maxRecDepth 20000 in
theorem gX4_onCircle_X4_power : GoodIn wsX4_onCircle (wsV RX4 58 RX4 yX4_power wsX4_power) := goodIn_app (goodIn_of _ (by decide +kernel)) ggX4_onCircle_X4_power
theorem dX4_onCircle_0 : decode cX4_onCircle 0 = .ok (.iconst 0, 1) := by decide +kernel
theorem dX4_onCircle_1 : decode cX4_onCircle 1 = .ok (.istore 4, 2) := by decide +kernel
theorem dX4_onCircle_3 : decode cX4_onCircle 3 = .ok (.iconst 0, 1) := by decide +kernel
theorem dX4_onCircle_4 : decode cX4_onCircle 4 = .ok (.istore 5, 2) := by decide +kernel
theorem dX4_onCircle_6 : decode cX4_onCircle 6 = .ok (.iload 5, 2) := by decide +kernel
theorem dX4_onCircle_8 : decode cX4_onCircle 8 = .ok (.aload_n 0, 1) := by decide +kernel
theorem dX4_onCircle_9 : decode cX4_onCircle 9 = .ok (.getfield 32, 3) := by decide +kernel
theorem dX4_onCircle_12 : decode cX4_onCircle 12 = .ok (.if_icmp .ge 50, 3) := by decide +kernel
theorem dX4_onCircle_15 : decode cX4_onCircle 15 = .ok (.aload_n 0, 1) := by decide +kernel
theorem dX4_onCircle_16 : decode cX4_onCircle 16 = .ok (.iload_n 1, 1) := by decide +kernel
theorem dX4_onCircle_17 : decode cX4_onCircle 17 = .ok (.iload_n 2, 1) := by decide +kernel
theorem dX4_onCircle_18 : decode cX4_onCircle 18 = .ok (.iload_n 3, 1) := by decide +kernel
theorem dX4_onCircle_19 : decode cX4_onCircle 19 = .ok (.iload 5, 2) := by decide +kernel
theorem dX4_onCircle_21 : decode cX4_onCircle 21 = .ok (.invokevirtual 58, 3) := by decide +kernel
theorem dX4_onCircle_24 : decode cX4_onCircle 24 = .ok (.lstore 6, 2) := by decide +kernel
theorem dX4_onCircle_26 : decode cX4_onCircle 26 = .ok (.lload 6, 2) := by decide +kernel
theorem dX4_onCircle_28 : decode cX4_onCircle 28 = .ok (.lconst 0, 1) := by decide +kernel
theorem dX4_onCircle_29 : decode cX4_onCircle 29 = .ok (.lcmp, 1) := by decide +kernel
theorem dX4_onCircle_30 : decode cX4_onCircle 30 = .ok (.ifCond .le 5, 3) := by decide +kernel
theorem dX4_onCircle_33 : decode cX4_onCircle 33 = .ok (.iconst 0, 1) := by decide +kernel
theorem dX4_onCircle_34 : decode cX4_onCircle 34 = .ok (.ireturn, 1) := by decide +kernel
theorem dX4_onCircle_35 : decode cX4_onCircle 35 = .ok (.lload 6, 2) := by decide +kernel
theorem dX4_onCircle_37 : decode cX4_onCircle 37 = .ok (.lconst 0, 1) := by decide +kernel
theorem dX4_onCircle_38 : decode cX4_onCircle 38 = .ok (.lcmp, 1) := by decide +kernel
theorem dX4_onCircle_39 : decode cX4_onCircle 39 = .ok (.ifCond .ne 13, 3) := by decide +kernel
theorem dX4_onCircle_42 : decode cX4_onCircle 42 = .ok (.iload 4, 2) := by decide +kernel
theorem dX4_onCircle_44 : decode cX4_onCircle 44 = .ok (.iconst 1, 1) := by decide +kernel
theorem dX4_onCircle_45 : decode cX4_onCircle 45 = .ok (.iload 5, 2) := by decide +kernel
theorem dX4_onCircle_47 : decode cX4_onCircle 47 = .ok (.ishl, 1) := by decide +kernel
theorem dX4_onCircle_48 : decode cX4_onCircle 48 = .ok (.ior, 1) := by decide +kernel
theorem dX4_onCircle_49 : decode cX4_onCircle 49 = .ok (.goto 5, 3) := by decide +kernel
theorem dX4_onCircle_52 : decode cX4_onCircle 52 = .ok (.iload 4, 2) := by decide +kernel
theorem dX4_onCircle_54 : decode cX4_onCircle 54 = .ok (.istore 4, 2) := by decide +kernel
theorem dX4_onCircle_56 : decode cX4_onCircle 56 = .ok (.iinc 5 1, 3) := by decide +kernel
theorem dX4_onCircle_59 : decode cX4_onCircle 59 = .ok (.goto (-53), 3) := by decide +kernel
theorem dX4_onCircle_62 : decode cX4_onCircle 62 = .ok (.iload 4, 2) := by decide +kernel
theorem dX4_onCircle_64 : decode cX4_onCircle 64 = .ok (.ireturn, 1) := by decide +kernel
set_option maxRecDepth 20000 in
theorem ggX4_behind_X4_turn : GoodIn wsX4_behind wsX4_turn := goodIn_r _ [8, 2, 3, 9, 10, 11, 12, 13, 14, 15, 16, 17, 18, 19] (by decide +kernel) (by decide +kernel)
set_option maxRecDepth 20000 in
theorem gX4_behind_X4_turn : GoodIn wsX4_behind (wsV RX4 62 RX4 yX4_turn wsX4_turn) := goodIn_app (goodIn_of _ (by decide +kernel)) ggX4_behind_X4_turn
theorem dX4_behind_0 : decode cX4_behind 0 = .ok (.iconst 0, 1) := by decide +kernel
theorem dX4_behind_1 : decode cX4_behind 1 = .ok (.istore_n 3, 1) := by decide +kernel
theorem dX4_behind_2 : decode cX4_behind 2 = .ok (.iload_n 3, 1) := by decide +kernel
theorem dX4_behind_3 : decode cX4_behind 3 = .ok (.aload_n 0, 1) := by decide +kernel
theorem dX4_behind_4 : decode cX4_behind 4 = .ok (.getfield 32, 3) := by decide +kernel
theorem dX4_behind_7 : decode cX4_behind 7 = .ok (.if_icmp .ge 99, 3) := by decide +kernel
theorem dX4_behind_10 : decode cX4_behind 10 = .ok (.iload_n 1, 1) := by decide +kernel
theorem dX4_behind_11 : decode cX4_behind 11 = .ok (.iload_n 3, 1) := by decide +kernel
theorem dX4_behind_12 : decode cX4_behind 12 = .ok (.ishr, 1) := by decide +kernel
theorem dX4_behind_13 : decode cX4_behind 13 = .ok (.iconst 1, 1) := by decide +kernel
theorem dX4_behind_14 : decode cX4_behind 14 = .ok (.iand, 1) := by decide +kernel
theorem dX4_behind_15 : decode cX4_behind 15 = .ok (.ifCond .eq 85, 3) := by decide +kernel
theorem dX4_behind_18 : decode cX4_behind 18 = .ok (.iload_n 3, 1) := by decide +kernel
theorem dX4_behind_19 : decode cX4_behind 19 = .ok (.iload_n 2, 1) := by decide +kernel
theorem dX4_behind_20 : decode cX4_behind 20 = .ok (.if_icmp .ne 6, 3) := by decide +kernel
theorem dX4_behind_23 : decode cX4_behind 23 = .ok (.goto 77, 3) := by decide +kernel
theorem dX4_behind_26 : decode cX4_behind 26 = .ok (.iconst 1, 1) := by decide +kernel
theorem dX4_behind_27 : decode cX4_behind 27 = .ok (.istore 4, 2) := by decide +kernel
theorem dX4_behind_29 : decode cX4_behind 29 = .ok (.iconst 0, 1) := by decide +kernel
theorem dX4_behind_30 : decode cX4_behind 30 = .ok (.istore 5, 2) := by decide +kernel
theorem dX4_behind_32 : decode cX4_behind 32 = .ok (.iload 5, 2) := by decide +kernel
theorem dX4_behind_34 : decode cX4_behind 34 = .ok (.aload_n 0, 1) := by decide +kernel
theorem dX4_behind_35 : decode cX4_behind 35 = .ok (.getfield 32, 3) := by decide +kernel
theorem dX4_behind_38 : decode cX4_behind 38 = .ok (.if_icmp .ge 55, 3) := by decide +kernel
theorem dX4_behind_41 : decode cX4_behind 41 = .ok (.iload 4, 2) := by decide +kernel
theorem dX4_behind_43 : decode cX4_behind 43 = .ok (.ifCond .eq 41, 3) := by decide +kernel
theorem dX4_behind_46 : decode cX4_behind 46 = .ok (.iload_n 1, 1) := by decide +kernel
theorem dX4_behind_47 : decode cX4_behind 47 = .ok (.iload 5, 2) := by decide +kernel
theorem dX4_behind_49 : decode cX4_behind 49 = .ok (.ishr, 1) := by decide +kernel
theorem dX4_behind_50 : decode cX4_behind 50 = .ok (.iconst 1, 1) := by decide +kernel
theorem dX4_behind_51 : decode cX4_behind 51 = .ok (.iand, 1) := by decide +kernel
theorem dX4_behind_52 : decode cX4_behind 52 = .ok (.ifCond .eq 28, 3) := by decide +kernel
theorem dX4_behind_55 : decode cX4_behind 55 = .ok (.aload_n 0, 1) := by decide +kernel
theorem dX4_behind_56 : decode cX4_behind 56 = .ok (.iload_n 2, 1) := by decide +kernel
theorem dX4_behind_57 : decode cX4_behind 57 = .ok (.iload_n 3, 1) := by decide +kernel
theorem dX4_behind_58 : decode cX4_behind 58 = .ok (.aload_n 0, 1) := by decide +kernel
theorem dX4_behind_59 : decode cX4_behind 59 = .ok (.getfield 7, 3) := by decide +kernel
theorem dX4_behind_62 : decode cX4_behind 62 = .ok (.iload 5, 2) := by decide +kernel
theorem dX4_behind_64 : decode cX4_behind 64 = .ok (.iaload, 1) := by decide +kernel
theorem dX4_behind_65 : decode cX4_behind 65 = .ok (.aload_n 0, 1) := by decide +kernel
theorem dX4_behind_66 : decode cX4_behind 66 = .ok (.getfield 13, 3) := by decide +kernel
theorem dX4_behind_69 : decode cX4_behind 69 = .ok (.iload 5, 2) := by decide +kernel
theorem dX4_behind_71 : decode cX4_behind 71 = .ok (.iaload, 1) := by decide +kernel
theorem dX4_behind_72 : decode cX4_behind 72 = .ok (.invokevirtual 62, 3) := by decide +kernel
theorem dX4_behind_75 : decode cX4_behind 75 = .ok (.lconst 0, 1) := by decide +kernel
theorem dX4_behind_76 : decode cX4_behind 76 = .ok (.lcmp, 1) := by decide +kernel
theorem dX4_behind_77 : decode cX4_behind 77 = .ok (.ifCond .lt 7, 3) := by decide +kernel
theorem dX4_behind_80 : decode cX4_behind 80 = .ok (.iconst 1, 1) := by decide +kernel
theorem dX4_behind_81 : decode cX4_behind 81 = .ok (.goto 4, 3) := by decide +kernel
theorem dX4_behind_84 : decode cX4_behind 84 = .ok (.iconst 0, 1) := by decide +kernel
theorem dX4_behind_85 : decode cX4_behind 85 = .ok (.istore 4, 2) := by decide +kernel
theorem dX4_behind_87 : decode cX4_behind 87 = .ok (.iinc 5 1, 3) := by decide +kernel
theorem dX4_behind_90 : decode cX4_behind 90 = .ok (.goto (-58), 3) := by decide +kernel
theorem dX4_behind_93 : decode cX4_behind 93 = .ok (.iload 4, 2) := by decide +kernel
theorem dX4_behind_95 : decode cX4_behind 95 = .ok (.ifCond .eq 5, 3) := by decide +kernel
theorem dX4_behind_98 : decode cX4_behind 98 = .ok (.iload_n 3, 1) := by decide +kernel
theorem dX4_behind_99 : decode cX4_behind 99 = .ok (.ireturn, 1) := by decide +kernel
theorem dX4_behind_100 : decode cX4_behind 100 = .ok (.iinc 3 1, 3) := by decide +kernel
theorem dX4_behind_103 : decode cX4_behind 103 = .ok (.goto (-101), 3) := by decide +kernel
theorem dX4_behind_106 : decode cX4_behind 106 = .ok (.iload_n 2, 1) := by decide +kernel
theorem dX4_behind_107 : decode cX4_behind 107 = .ok (.ireturn, 1) := by decide +kernel
set_option maxRecDepth 20000 in
theorem ggX4_add_X4_behind : GoodIn wsX4_add wsX4_behind := goodIn_r _ [8, 9, 10, 11, 12, 13, 14, 7, 15, 16, 17, 18, 19, 20, 21, 22, 23, 24, 25, 26] (by decide +kernel) (by decide +kernel)
set_option maxRecDepth 20000 in
theorem gX4_add_X4_behind : GoodIn wsX4_add (wsV RX4 68 RX4 yX4_behind wsX4_behind) := goodIn_app (goodIn_of _ (by decide +kernel)) ggX4_add_X4_behind
theorem dX4_add_0 : decode cX4_add 0 = .ok (.iconst 0, 1) := by decide +kernel
theorem dX4_add_1 : decode cX4_add 1 = .ok (.istore_n 3, 1) := by decide +kernel
theorem dX4_add_2 : decode cX4_add 2 = .ok (.iload_n 2, 1) := by decide +kernel
theorem dX4_add_3 : decode cX4_add 3 = .ok (.istore 4, 2) := by decide +kernel
theorem dX4_add_5 : decode cX4_add 5 = .ok (.iload_n 3, 1) := by decide +kernel
theorem dX4_add_6 : decode cX4_add 6 = .ok (.ifCond .eq 9, 3) := by decide +kernel
theorem dX4_add_9 : decode cX4_add 9 = .ok (.iload 4, 2) := by decide +kernel
theorem dX4_add_11 : decode cX4_add 11 = .ok (.iload_n 2, 1) := by decide +kernel
theorem dX4_add_12 : decode cX4_add 12 = .ok (.if_icmp .eq 34, 3) := by decide +kernel
theorem dX4_add_15 : decode cX4_add 15 = .ok (.aload_n 0, 1) := by decide +kernel
theorem dX4_add_16 : decode cX4_add 16 = .ok (.getfield 19, 3) := by decide +kernel
theorem dX4_add_19 : decode cX4_add 19 = .ok (.bipush 20, 2) := by decide +kernel
theorem dX4_add_21 : decode cX4_add 21 = .ok (.aload_n 0, 1) := by decide +kernel
theorem dX4_add_22 : decode cX4_add 22 = .ok (.getfield 65, 3) := by decide +kernel
theorem dX4_add_25 : decode cX4_add 25 = .ok (.imul, 1) := by decide +kernel
theorem dX4_add_26 : decode cX4_add 26 = .ok (.iload_n 3, 1) := by decide +kernel
theorem dX4_add_27 : decode cX4_add 27 = .ok (.iadd, 1) := by decide +kernel
theorem dX4_add_28 : decode cX4_add 28 = .ok (.iload 4, 2) := by decide +kernel
theorem dX4_add_30 : decode cX4_add 30 = .ok (.iastore, 1) := by decide +kernel
theorem dX4_add_31 : decode cX4_add 31 = .ok (.iinc 3 1, 3) := by decide +kernel
theorem dX4_add_34 : decode cX4_add 34 = .ok (.aload_n 0, 1) := by decide +kernel
theorem dX4_add_35 : decode cX4_add 35 = .ok (.iload_n 1, 1) := by decide +kernel
theorem dX4_add_36 : decode cX4_add 36 = .ok (.iload 4, 2) := by decide +kernel
theorem dX4_add_38 : decode cX4_add 38 = .ok (.invokevirtual 68, 3) := by decide +kernel
theorem dX4_add_41 : decode cX4_add 41 = .ok (.istore 4, 2) := by decide +kernel
theorem dX4_add_43 : decode cX4_add 43 = .ok (.goto (-38), 3) := by decide +kernel
theorem dX4_add_46 : decode cX4_add 46 = .ok (.aload_n 0, 1) := by decide +kernel
theorem dX4_add_47 : decode cX4_add 47 = .ok (.getfield 16, 3) := by decide +kernel
theorem dX4_add_50 : decode cX4_add 50 = .ok (.aload_n 0, 1) := by decide +kernel
theorem dX4_add_51 : decode cX4_add 51 = .ok (.getfield 65, 3) := by decide +kernel
theorem dX4_add_54 : decode cX4_add 54 = .ok (.iload_n 3, 1) := by decide +kernel
theorem dX4_add_55 : decode cX4_add 55 = .ok (.iastore, 1) := by decide +kernel
theorem dX4_add_56 : decode cX4_add 56 = .ok (.aload_n 0, 1) := by decide +kernel
theorem dX4_add_57 : decode cX4_add 57 = .ok (.dup, 1) := by decide +kernel
theorem dX4_add_58 : decode cX4_add 58 = .ok (.getfield 65, 3) := by decide +kernel
theorem dX4_add_61 : decode cX4_add 61 = .ok (.iconst 1, 1) := by decide +kernel
theorem dX4_add_62 : decode cX4_add 62 = .ok (.iadd, 1) := by decide +kernel
theorem dX4_add_63 : decode cX4_add 63 = .ok (.putfield 65, 3) := by decide +kernel
theorem dX4_add_66 : decode cX4_add 66 = .ok (.return_, 1) := by decide +kernel
theorem dX4_isBefore_0 : decode cX4_isBefore 0 = .ok (.iconst 0, 1) := by decide +kernel
theorem dX4_isBefore_1 : decode cX4_isBefore 1 = .ok (.istore_n 3, 1) := by decide +kernel
theorem dX4_isBefore_2 : decode cX4_isBefore 2 = .ok (.iload_n 3, 1) := by decide +kernel
theorem dX4_isBefore_3 : decode cX4_isBefore 3 = .ok (.aload_n 0, 1) := by decide +kernel
theorem dX4_isBefore_4 : decode cX4_isBefore 4 = .ok (.getfield 16, 3) := by decide +kernel
theorem dX4_isBefore_7 : decode cX4_isBefore 7 = .ok (.iload_n 1, 1) := by decide +kernel
theorem dX4_isBefore_8 : decode cX4_isBefore 8 = .ok (.iaload, 1) := by decide +kernel
theorem dX4_isBefore_9 : decode cX4_isBefore 9 = .ok (.if_icmp .ge 75, 3) := by decide +kernel
theorem dX4_isBefore_12 : decode cX4_isBefore 12 = .ok (.iload_n 3, 1) := by decide +kernel
theorem dX4_isBefore_13 : decode cX4_isBefore 13 = .ok (.aload_n 0, 1) := by decide +kernel
theorem dX4_isBefore_14 : decode cX4_isBefore 14 = .ok (.getfield 16, 3) := by decide +kernel
theorem dX4_isBefore_17 : decode cX4_isBefore 17 = .ok (.iload_n 2, 1) := by decide +kernel
theorem dX4_isBefore_18 : decode cX4_isBefore 18 = .ok (.iaload, 1) := by decide +kernel
theorem dX4_isBefore_19 : decode cX4_isBefore 19 = .ok (.if_icmp .ge 65, 3) := by decide +kernel
theorem dX4_isBefore_22 : decode cX4_isBefore 22 = .ok (.aload_n 0, 1) := by decide +kernel
theorem dX4_isBefore_23 : decode cX4_isBefore 23 = .ok (.getfield 19, 3) := by decide +kernel
theorem dX4_isBefore_26 : decode cX4_isBefore 26 = .ok (.bipush 20, 2) := by decide +kernel
theorem dX4_isBefore_28 : decode cX4_isBefore 28 = .ok (.iload_n 1, 1) := by decide +kernel
theorem dX4_isBefore_29 : decode cX4_isBefore 29 = .ok (.imul, 1) := by decide +kernel
theorem dX4_isBefore_30 : decode cX4_isBefore 30 = .ok (.iload_n 3, 1) := by decide +kernel
theorem dX4_isBefore_31 : decode cX4_isBefore 31 = .ok (.iadd, 1) := by decide +kernel
theorem dX4_isBefore_32 : decode cX4_isBefore 32 = .ok (.iaload, 1) := by decide +kernel
theorem dX4_isBefore_33 : decode cX4_isBefore 33 = .ok (.aload_n 0, 1) := by decide +kernel
theorem dX4_isBefore_34 : decode cX4_isBefore 34 = .ok (.getfield 19, 3) := by decide +kernel
theorem dX4_isBefore_37 : decode cX4_isBefore 37 = .ok (.bipush 20, 2) := by decide +kernel
theorem dX4_isBefore_39 : decode cX4_isBefore 39 = .ok (.iload_n 2, 1) := by decide +kernel
theorem dX4_isBefore_40 : decode cX4_isBefore 40 = .ok (.imul, 1) := by decide +kernel
theorem dX4_isBefore_41 : decode cX4_isBefore 41 = .ok (.iload_n 3, 1) := by decide +kernel
theorem dX4_isBefore_42 : decode cX4_isBefore 42 = .ok (.iadd, 1) := by decide +kernel
theorem dX4_isBefore_43 : decode cX4_isBefore 43 = .ok (.iaload, 1) := by decide +kernel
theorem dX4_isBefore_44 : decode cX4_isBefore 44 = .ok (.if_icmp .eq 34, 3) := by decide +kernel
theorem dX4_isBefore_47 : decode cX4_isBefore 47 = .ok (.aload_n 0, 1) := by decide +kernel
theorem dX4_isBefore_48 : decode cX4_isBefore 48 = .ok (.getfield 19, 3) := by decide +kernel
theorem dX4_isBefore_51 : decode cX4_isBefore 51 = .ok (.bipush 20, 2) := by decide +kernel
theorem dX4_isBefore_53 : decode cX4_isBefore 53 = .ok (.iload_n 1, 1) := by decide +kernel
theorem dX4_isBefore_54 : decode cX4_isBefore 54 = .ok (.imul, 1) := by decide +kernel
theorem dX4_isBefore_55 : decode cX4_isBefore 55 = .ok (.iload_n 3, 1) := by decide +kernel
theorem dX4_isBefore_56 : decode cX4_isBefore 56 = .ok (.iadd, 1) := by decide +kernel
theorem dX4_isBefore_57 : decode cX4_isBefore 57 = .ok (.iaload, 1) := by decide +kernel
theorem dX4_isBefore_58 : decode cX4_isBefore 58 = .ok (.aload_n 0, 1) := by decide +kernel
theorem dX4_isBefore_59 : decode cX4_isBefore 59 = .ok (.getfield 19, 3) := by decide +kernel
theorem dX4_isBefore_62 : decode cX4_isBefore 62 = .ok (.bipush 20, 2) := by decide +kernel
theorem dX4_isBefore_64 : decode cX4_isBefore 64 = .ok (.iload_n 2, 1) := by decide +kernel
theorem dX4_isBefore_65 : decode cX4_isBefore 65 = .ok (.imul, 1) := by decide +kernel
theorem dX4_isBefore_66 : decode cX4_isBefore 66 = .ok (.iload_n 3, 1) := by decide +kernel
theorem dX4_isBefore_67 : decode cX4_isBefore 67 = .ok (.iadd, 1) := by decide +kernel
theorem dX4_isBefore_68 : decode cX4_isBefore 68 = .ok (.iaload, 1) := by decide +kernel
theorem dX4_isBefore_69 : decode cX4_isBefore 69 = .ok (.if_icmp .ge 7, 3) := by decide +kernel
theorem dX4_isBefore_72 : decode cX4_isBefore 72 = .ok (.iconst 1, 1) := by decide +kernel
theorem dX4_isBefore_73 : decode cX4_isBefore 73 = .ok (.goto 4, 3) := by decide +kernel
theorem dX4_isBefore_76 : decode cX4_isBefore 76 = .ok (.iconst 0, 1) := by decide +kernel
theorem dX4_isBefore_77 : decode cX4_isBefore 77 = .ok (.ireturn, 1) := by decide +kernel
theorem dX4_isBefore_78 : decode cX4_isBefore 78 = .ok (.iinc 3 1, 3) := by decide +kernel
theorem dX4_isBefore_81 : decode cX4_isBefore 81 = .ok (.goto (-79), 3) := by decide +kernel
theorem dX4_isBefore_84 : decode cX4_isBefore 84 = .ok (.aload_n 0, 1) := by decide +kernel
theorem dX4_isBefore_85 : decode cX4_isBefore 85 = .ok (.getfield 16, 3) := by decide +kernel
theorem dX4_isBefore_88 : decode cX4_isBefore 88 = .ok (.iload_n 1, 1) := by decide +kernel
theorem dX4_isBefore_89 : decode cX4_isBefore 89 = .ok (.iaload, 1) := by decide +kernel
theorem dX4_isBefore_90 : decode cX4_isBefore 90 = .ok (.aload_n 0, 1) := by decide +kernel
theorem dX4_isBefore_91 : decode cX4_isBefore 91 = .ok (.getfield 16, 3) := by decide +kernel
theorem dX4_isBefore_94 : decode cX4_isBefore 94 = .ok (.iload_n 2, 1) := by decide +kernel
theorem dX4_isBefore_95 : decode cX4_isBefore 95 = .ok (.iaload, 1) := by decide +kernel
theorem dX4_isBefore_96 : decode cX4_isBefore 96 = .ok (.if_icmp .ge 7, 3) := by decide +kernel
theorem dX4_isBefore_99 : decode cX4_isBefore 99 = .ok (.iconst 1, 1) := by decide +kernel
theorem dX4_isBefore_100 : decode cX4_isBefore 100 = .ok (.goto 4, 3) := by decide +kernel
theorem dX4_isBefore_103 : decode cX4_isBefore 103 = .ok (.iconst 0, 1) := by decide +kernel
theorem dX4_isBefore_104 : decode cX4_isBefore 104 = .ok (.ireturn, 1) := by decide +kernel
set_option maxRecDepth 20000 in
theorem ggX4_make_X4_turn : GoodIn wsX4_make wsX4_turn := goodIn_r _ [12, 5, 6, 56, 57, 58, 59, 60, 61, 62, 63, 64, 65, 66] (by decide +kernel) (by decide +kernel)
set_option maxRecDepth 20000 in
theorem gX4_make_X4_turn : GoodIn wsX4_make (wsV RX4 62 RX4 yX4_turn wsX4_turn) := goodIn_app (goodIn_of _ (by decide +kernel)) ggX4_make_X4_turn
set_option maxRecDepth 20000 in
theorem ggX4_make_X4_onCircle : GoodIn wsX4_make wsX4_onCircle := goodIn_r _ [16, 4, 17, 18, 19, 11, 20, 5, 6, 21, 22, 23, 24, 56, 57, 58, 59, 60, 61, 62, 63, 64, 65, 66] (by decide +kernel) (by decide +kernel)
set_option maxRecDepth 20000 in
theorem gX4_make_X4_onCircle : GoodIn wsX4_make (wsV RX4 75 RX4 yX4_onCircle wsX4_onCircle) := goodIn_app (goodIn_of _ (by decide +kernel)) ggX4_make_X4_onCircle
set_option maxRecDepth 20000 in
theorem ggX4_make_X4_add : GoodIn wsX4_make wsX4_add := goodIn_r _ [28, 29, 2, 30, 31, 32, 33, 11, 34, 4, 5, 6, 8, 9, 10, 12, 56, 57, 58, 59, 60, 61, 62, 63, 64, 65, 66] (by decide +kernel) (by decide +kernel)
set_option maxRecDepth 20000 in
theorem gX4_make_X4_add : GoodIn wsX4_make (wsV RX4 79 RX4 yX4_add wsX4_add) := goodIn_app (goodIn_of _ (by decide +kernel)) ggX4_make_X4_add
set_option maxRecDepth 20000 in
theorem ggX4_make_X4_isBefore : GoodIn wsX4_make wsX4_isBefore := goodIn_r _ [38, 30, 29, 56, 57, 58, 59, 60, 61, 62, 63, 64, 65, 66] (by decide +kernel) (by decide +kernel)
set_option maxRecDepth 20000 in
theorem gX4_make_X4_isBefore : GoodIn wsX4_make (wsV RX4 83 RX4 yX4_isBefore wsX4_isBefore) := goodIn_app (goodIn_of _ (by decide +kernel)) ggX4_make_X4_isBefore
set_option maxRecDepth 20000 in
theorem ggX4_make_X4_surround : GoodIn wsX4_make wsX4_surround := goodIn_r _ [42, 4, 2, 3, 43, 44, 45, 46, 11, 47, 30, 29, 48, 49, 50, 51, 52, 53, 54, 55, 7, 56, 57, 58, 59, 60, 61, 62, 63, 64, 65, 66] (by decide +kernel) (by decide +kernel)
set_option maxRecDepth 20000 in
theorem gX4_make_X4_surround : GoodIn wsX4_make (wsV RX4 86 RX4 yX4_surround wsX4_surround) := goodIn_app (goodIn_of _ (by decide +kernel)) ggX4_make_X4_surround
theorem dX4_make_0 : decode cX4_make 0 = .ok (.aload_n 0, 1) := by decide +kernel
theorem dX4_make_1 : decode cX4_make 1 = .ok (.getfield 47, 3) := by decide +kernel
theorem dX4_make_4 : decode cX4_make 4 = .ok (.ifCond .eq 4, 3) := by decide +kernel
theorem dX4_make_7 : decode cX4_make 7 = .ok (.return_, 1) := by decide +kernel
theorem dX4_make_8 : decode cX4_make 8 = .ok (.aload_n 0, 1) := by decide +kernel
theorem dX4_make_9 : decode cX4_make 9 = .ok (.iconst 1, 1) := by decide +kernel
theorem dX4_make_10 : decode cX4_make 10 = .ok (.putfield 47, 3) := by decide +kernel
theorem dX4_make_13 : decode cX4_make 13 = .ok (.aload_n 0, 1) := by decide +kernel
theorem dX4_make_14 : decode cX4_make 14 = .ok (.iconst 0, 1) := by decide +kernel
theorem dX4_make_15 : decode cX4_make 15 = .ok (.putfield 65, 3) := by decide +kernel
theorem dX4_make_18 : decode cX4_make 18 = .ok (.aload_n 0, 1) := by decide +kernel
theorem dX4_make_19 : decode cX4_make 19 = .ok (.iconst 0, 1) := by decide +kernel
theorem dX4_make_20 : decode cX4_make 20 = .ok (.putfield 72, 3) := by decide +kernel
theorem dX4_make_23 : decode cX4_make 23 = .ok (.iconst 0, 1) := by decide +kernel
theorem dX4_make_24 : decode cX4_make 24 = .ok (.istore_n 1, 1) := by decide +kernel
theorem dX4_make_25 : decode cX4_make 25 = .ok (.iload_n 1, 1) := by decide +kernel
theorem dX4_make_26 : decode cX4_make 26 = .ok (.aload_n 0, 1) := by decide +kernel
theorem dX4_make_27 : decode cX4_make 27 = .ok (.getfield 32, 3) := by decide +kernel
theorem dX4_make_30 : decode cX4_make 30 = .ok (.if_icmp .ge 119, 3) := by decide +kernel
theorem dX4_make_33 : decode cX4_make 33 = .ok (.iload_n 1, 1) := by decide +kernel
theorem dX4_make_34 : decode cX4_make 34 = .ok (.iconst 1, 1) := by decide +kernel
theorem dX4_make_35 : decode cX4_make 35 = .ok (.iadd, 1) := by decide +kernel
theorem dX4_make_36 : decode cX4_make 36 = .ok (.istore_n 2, 1) := by decide +kernel
theorem dX4_make_37 : decode cX4_make 37 = .ok (.iload_n 2, 1) := by decide +kernel
theorem dX4_make_38 : decode cX4_make 38 = .ok (.aload_n 0, 1) := by decide +kernel
theorem dX4_make_39 : decode cX4_make 39 = .ok (.getfield 32, 3) := by decide +kernel
theorem dX4_make_42 : decode cX4_make 42 = .ok (.if_icmp .ge 101, 3) := by decide +kernel
theorem dX4_make_45 : decode cX4_make 45 = .ok (.iload_n 2, 1) := by decide +kernel
theorem dX4_make_46 : decode cX4_make 46 = .ok (.iconst 1, 1) := by decide +kernel
theorem dX4_make_47 : decode cX4_make 47 = .ok (.iadd, 1) := by decide +kernel
theorem dX4_make_48 : decode cX4_make 48 = .ok (.istore_n 3, 1) := by decide +kernel
theorem dX4_make_49 : decode cX4_make 49 = .ok (.iload_n 3, 1) := by decide +kernel
theorem dX4_make_50 : decode cX4_make 50 = .ok (.aload_n 0, 1) := by decide +kernel
theorem dX4_make_51 : decode cX4_make 51 = .ok (.getfield 32, 3) := by decide +kernel
theorem dX4_make_54 : decode cX4_make 54 = .ok (.if_icmp .ge 83, 3) := by decide +kernel
theorem dX4_make_57 : decode cX4_make 57 = .ok (.aload_n 0, 1) := by decide +kernel
theorem dX4_make_58 : decode cX4_make 58 = .ok (.iload_n 1, 1) := by decide +kernel
theorem dX4_make_59 : decode cX4_make 59 = .ok (.iload_n 2, 1) := by decide +kernel
theorem dX4_make_60 : decode cX4_make 60 = .ok (.aload_n 0, 1) := by decide +kernel
theorem dX4_make_61 : decode cX4_make 61 = .ok (.getfield 7, 3) := by decide +kernel
theorem dX4_make_64 : decode cX4_make 64 = .ok (.iload_n 3, 1) := by decide +kernel
theorem dX4_make_65 : decode cX4_make 65 = .ok (.iaload, 1) := by decide +kernel
theorem dX4_make_66 : decode cX4_make 66 = .ok (.aload_n 0, 1) := by decide +kernel
theorem dX4_make_67 : decode cX4_make 67 = .ok (.getfield 13, 3) := by decide +kernel
theorem dX4_make_70 : decode cX4_make 70 = .ok (.iload_n 3, 1) := by decide +kernel
theorem dX4_make_71 : decode cX4_make 71 = .ok (.iaload, 1) := by decide +kernel
theorem dX4_make_72 : decode cX4_make 72 = .ok (.invokevirtual 62, 3) := by decide +kernel
theorem dX4_make_75 : decode cX4_make 75 = .ok (.lconst 0, 1) := by decide +kernel
theorem dX4_make_76 : decode cX4_make 76 = .ok (.lcmp, 1) := by decide +kernel
theorem dX4_make_77 : decode cX4_make 77 = .ok (.ifCond .ne 6, 3) := by decide +kernel
theorem dX4_make_80 : decode cX4_make 80 = .ok (.goto 51, 3) := by decide +kernel
theorem dX4_make_83 : decode cX4_make 83 = .ok (.aload_n 0, 1) := by decide +kernel
theorem dX4_make_84 : decode cX4_make 84 = .ok (.iload_n 1, 1) := by decide +kernel
theorem dX4_make_85 : decode cX4_make 85 = .ok (.iload_n 2, 1) := by decide +kernel
theorem dX4_make_86 : decode cX4_make 86 = .ok (.iload_n 3, 1) := by decide +kernel
theorem dX4_make_87 : decode cX4_make 87 = .ok (.invokevirtual 75, 3) := by decide +kernel
theorem dX4_make_90 : decode cX4_make 90 = .ok (.istore 4, 2) := by decide +kernel
theorem dX4_make_92 : decode cX4_make 92 = .ok (.iconst 1, 1) := by decide +kernel
theorem dX4_make_93 : decode cX4_make 93 = .ok (.iload_n 3, 1) := by decide +kernel
theorem dX4_make_94 : decode cX4_make 94 = .ok (.ishl, 1) := by decide +kernel
theorem dX4_make_95 : decode cX4_make 95 = .ok (.iconst 1, 1) := by decide +kernel
theorem dX4_make_96 : decode cX4_make 96 = .ok (.isub, 1) := by decide +kernel
theorem dX4_make_97 : decode cX4_make 97 = .ok (.iconst 1, 1) := by decide +kernel
theorem dX4_make_98 : decode cX4_make 98 = .ok (.iload_n 1, 1) := by decide +kernel
theorem dX4_make_99 : decode cX4_make 99 = .ok (.ishl, 1) := by decide +kernel
theorem dX4_make_100 : decode cX4_make 100 = .ok (.iconst (-1), 1) := by decide +kernel
theorem dX4_make_101 : decode cX4_make 101 = .ok (.ixor, 1) := by decide +kernel
theorem dX4_make_102 : decode cX4_make 102 = .ok (.iand, 1) := by decide +kernel
theorem dX4_make_103 : decode cX4_make 103 = .ok (.iconst 1, 1) := by decide +kernel
theorem dX4_make_104 : decode cX4_make 104 = .ok (.iload_n 2, 1) := by decide +kernel
theorem dX4_make_105 : decode cX4_make 105 = .ok (.ishl, 1) := by decide +kernel
theorem dX4_make_106 : decode cX4_make 106 = .ok (.iconst (-1), 1) := by decide +kernel
theorem dX4_make_107 : decode cX4_make 107 = .ok (.ixor, 1) := by decide +kernel
theorem dX4_make_108 : decode cX4_make 108 = .ok (.iand, 1) := by decide +kernel
theorem dX4_make_109 : decode cX4_make 109 = .ok (.istore 5, 2) := by decide +kernel
theorem dX4_make_111 : decode cX4_make 111 = .ok (.iload 4, 2) := by decide +kernel
theorem dX4_make_113 : decode cX4_make 113 = .ok (.ifCond .eq 18, 3) := by decide +kernel
theorem dX4_make_116 : decode cX4_make 116 = .ok (.iload 4, 2) := by decide +kernel
theorem dX4_make_118 : decode cX4_make 118 = .ok (.iload 5, 2) := by decide +kernel
theorem dX4_make_120 : decode cX4_make 120 = .ok (.iand, 1) := by decide +kernel
theorem dX4_make_121 : decode cX4_make 121 = .ok (.ifCond .ne 10, 3) := by decide +kernel
theorem dX4_make_124 : decode cX4_make 124 = .ok (.aload_n 0, 1) := by decide +kernel
theorem dX4_make_125 : decode cX4_make 125 = .ok (.iload 4, 2) := by decide +kernel
theorem dX4_make_127 : decode cX4_make 127 = .ok (.iload_n 1, 1) := by decide +kernel
theorem dX4_make_128 : decode cX4_make 128 = .ok (.invokevirtual 79, 3) := by decide +kernel
theorem dX4_make_131 : decode cX4_make 131 = .ok (.iinc 3 1, 3) := by decide +kernel
theorem dX4_make_134 : decode cX4_make 134 = .ok (.goto (-85), 3) := by decide +kernel
theorem dX4_make_137 : decode cX4_make 137 = .ok (.iinc 2 1, 3) := by decide +kernel
theorem dX4_make_140 : decode cX4_make 140 = .ok (.goto (-103), 3) := by decide +kernel
theorem dX4_make_143 : decode cX4_make 143 = .ok (.iinc 1 1, 3) := by decide +kernel
theorem dX4_make_146 : decode cX4_make 146 = .ok (.goto (-121), 3) := by decide +kernel
theorem dX4_make_149 : decode cX4_make 149 = .ok (.iconst 0, 1) := by decide +kernel
theorem dX4_make_150 : decode cX4_make 150 = .ok (.istore_n 1, 1) := by decide +kernel
theorem dX4_make_151 : decode cX4_make 151 = .ok (.iload_n 1, 1) := by decide +kernel
theorem dX4_make_152 : decode cX4_make 152 = .ok (.aload_n 0, 1) := by decide +kernel
theorem dX4_make_153 : decode cX4_make 153 = .ok (.getfield 65, 3) := by decide +kernel
theorem dX4_make_156 : decode cX4_make 156 = .ok (.if_icmp .ge 51, 3) := by decide +kernel
theorem dX4_make_159 : decode cX4_make 159 = .ok (.iconst 0, 1) := by decide +kernel
theorem dX4_make_160 : decode cX4_make 160 = .ok (.istore_n 2, 1) := by decide +kernel
theorem dX4_make_161 : decode cX4_make 161 = .ok (.iconst 0, 1) := by decide +kernel
theorem dX4_make_162 : decode cX4_make 162 = .ok (.istore_n 3, 1) := by decide +kernel
theorem dX4_make_163 : decode cX4_make 163 = .ok (.iload_n 3, 1) := by decide +kernel
theorem dX4_make_164 : decode cX4_make 164 = .ok (.aload_n 0, 1) := by decide +kernel
theorem dX4_make_165 : decode cX4_make 165 = .ok (.getfield 65, 3) := by decide +kernel
theorem dX4_make_168 : decode cX4_make 168 = .ok (.if_icmp .ge 26, 3) := by decide +kernel
theorem dX4_make_171 : decode cX4_make 171 = .ok (.aload_n 0, 1) := by decide +kernel
theorem dX4_make_172 : decode cX4_make 172 = .ok (.iload_n 3, 1) := by decide +kernel
theorem dX4_make_173 : decode cX4_make 173 = .ok (.iload_n 1, 1) := by decide +kernel
theorem dX4_make_174 : decode cX4_make 174 = .ok (.invokevirtual 83, 3) := by decide +kernel
theorem dX4_make_177 : decode cX4_make 177 = .ok (.ifCond .eq 9, 3) := by decide +kernel
theorem dX4_make_180 : decode cX4_make 180 = .ok (.iload_n 2, 1) := by decide +kernel
theorem dX4_make_181 : decode cX4_make 181 = .ok (.iconst 1, 1) := by decide +kernel
theorem dX4_make_182 : decode cX4_make 182 = .ok (.iadd, 1) := by decide +kernel
theorem dX4_make_183 : decode cX4_make 183 = .ok (.goto 4, 3) := by decide +kernel
theorem dX4_make_186 : decode cX4_make 186 = .ok (.iload_n 2, 1) := by decide +kernel
theorem dX4_make_187 : decode cX4_make 187 = .ok (.istore_n 2, 1) := by decide +kernel
theorem dX4_make_188 : decode cX4_make 188 = .ok (.iinc 3 1, 3) := by decide +kernel
theorem dX4_make_191 : decode cX4_make 191 = .ok (.goto (-28), 3) := by decide +kernel
theorem dX4_make_194 : decode cX4_make 194 = .ok (.aload_n 0, 1) := by decide +kernel
theorem dX4_make_195 : decode cX4_make 195 = .ok (.getfield 22, 3) := by decide +kernel
theorem dX4_make_198 : decode cX4_make 198 = .ok (.iload_n 2, 1) := by decide +kernel
theorem dX4_make_199 : decode cX4_make 199 = .ok (.iload_n 1, 1) := by decide +kernel
theorem dX4_make_200 : decode cX4_make 200 = .ok (.iastore, 1) := by decide +kernel
theorem dX4_make_201 : decode cX4_make 201 = .ok (.iinc 1 1, 3) := by decide +kernel
theorem dX4_make_204 : decode cX4_make 204 = .ok (.goto (-53), 3) := by decide +kernel
theorem dX4_make_207 : decode cX4_make 207 = .ok (.aload_n 0, 1) := by decide +kernel
theorem dX4_make_208 : decode cX4_make 208 = .ok (.invokevirtual 86, 3) := by decide +kernel
theorem dX4_make_211 : decode cX4_make 211 = .ok (.return_, 1) := by decide +kernel
theorem dX4_after_0 : decode cX4_after 0 = .ok (.aload_n 0, 1) := by decide +kernel
theorem dX4_after_1 : decode cX4_after 1 = .ok (.getfield 19, 3) := by decide +kernel
theorem dX4_after_4 : decode cX4_after 4 = .ok (.bipush 20, 2) := by decide +kernel
theorem dX4_after_6 : decode cX4_after 6 = .ok (.iload_n 1, 1) := by decide +kernel
theorem dX4_after_7 : decode cX4_after 7 = .ok (.imul, 1) := by decide +kernel
theorem dX4_after_8 : decode cX4_after 8 = .ok (.iload_n 2, 1) := by decide +kernel
theorem dX4_after_9 : decode cX4_after 9 = .ok (.iconst 1, 1) := by decide +kernel
theorem dX4_after_10 : decode cX4_after 10 = .ok (.iadd, 1) := by decide +kernel
theorem dX4_after_11 : decode cX4_after 11 = .ok (.aload_n 0, 1) := by decide +kernel
theorem dX4_after_12 : decode cX4_after 12 = .ok (.getfield 16, 3) := by decide +kernel
theorem dX4_after_15 : decode cX4_after 15 = .ok (.iload_n 1, 1) := by decide +kernel
theorem dX4_after_16 : decode cX4_after 16 = .ok (.iaload, 1) := by decide +kernel
theorem dX4_after_17 : decode cX4_after 17 = .ok (.irem, 1) := by decide +kernel
theorem dX4_after_18 : decode cX4_after 18 = .ok (.iadd, 1) := by decide +kernel
theorem dX4_after_19 : decode cX4_after 19 = .ok (.iaload, 1) := by decide +kernel
theorem dX4_after_20 : decode cX4_after 20 = .ok (.ireturn, 1) := by decide +kernel
set_option maxRecDepth 20000 in
theorem ggX4_withSide_X4_after : GoodIn wsX4_withSide wsX4_after := goodIn_r _ [9, 4, 3, 10, 11, 12, 13, 14, 15, 16, 17, 18, 19, 20] (by decide +kernel) (by decide +kernel)
set_option maxRecDepth 20000 in
theorem gX4_withSide_X4_after : GoodIn wsX4_withSide (wsV RX4 89 RX4 yX4_after wsX4_after) := goodIn_app (goodIn_of _ (by decide +kernel)) ggX4_withSide_X4_after
theorem dX4_withSide_0 : decode cX4_withSide 0 = .ok (.iconst 0, 1) := by decide +kernel
theorem dX4_withSide_1 : decode cX4_withSide 1 = .ok (.istore_n 3, 1) := by decide +kernel
theorem dX4_withSide_2 : decode cX4_withSide 2 = .ok (.iload_n 3, 1) := by decide +kernel
theorem dX4_withSide_3 : decode cX4_withSide 3 = .ok (.aload_n 0, 1) := by decide +kernel
theorem dX4_withSide_4 : decode cX4_withSide 4 = .ok (.getfield 65, 3) := by decide +kernel
theorem dX4_withSide_7 : decode cX4_withSide 7 = .ok (.if_icmp .ge 69, 3) := by decide +kernel
theorem dX4_withSide_10 : decode cX4_withSide 10 = .ok (.aload_n 0, 1) := by decide +kernel
theorem dX4_withSide_11 : decode cX4_withSide 11 = .ok (.getfield 22, 3) := by decide +kernel
theorem dX4_withSide_14 : decode cX4_withSide 14 = .ok (.iload_n 3, 1) := by decide +kernel
theorem dX4_withSide_15 : decode cX4_withSide 15 = .ok (.iaload, 1) := by decide +kernel
theorem dX4_withSide_16 : decode cX4_withSide 16 = .ok (.istore 4, 2) := by decide +kernel
theorem dX4_withSide_18 : decode cX4_withSide 18 = .ok (.iconst 0, 1) := by decide +kernel
theorem dX4_withSide_19 : decode cX4_withSide 19 = .ok (.istore 5, 2) := by decide +kernel
theorem dX4_withSide_21 : decode cX4_withSide 21 = .ok (.iload 5, 2) := by decide +kernel
theorem dX4_withSide_23 : decode cX4_withSide 23 = .ok (.aload_n 0, 1) := by decide +kernel
theorem dX4_withSide_24 : decode cX4_withSide 24 = .ok (.getfield 16, 3) := by decide +kernel
theorem dX4_withSide_27 : decode cX4_withSide 27 = .ok (.iload 4, 2) := by decide +kernel
theorem dX4_withSide_29 : decode cX4_withSide 29 = .ok (.iaload, 1) := by decide +kernel
theorem dX4_withSide_30 : decode cX4_withSide 30 = .ok (.if_icmp .ge 40, 3) := by decide +kernel
theorem dX4_withSide_33 : decode cX4_withSide 33 = .ok (.aload_n 0, 1) := by decide +kernel
theorem dX4_withSide_34 : decode cX4_withSide 34 = .ok (.getfield 19, 3) := by decide +kernel
theorem dX4_withSide_37 : decode cX4_withSide 37 = .ok (.bipush 20, 2) := by decide +kernel
theorem dX4_withSide_39 : decode cX4_withSide 39 = .ok (.iload 4, 2) := by decide +kernel
theorem dX4_withSide_41 : decode cX4_withSide 41 = .ok (.imul, 1) := by decide +kernel
theorem dX4_withSide_42 : decode cX4_withSide 42 = .ok (.iload 5, 2) := by decide +kernel
theorem dX4_withSide_44 : decode cX4_withSide 44 = .ok (.iadd, 1) := by decide +kernel
theorem dX4_withSide_45 : decode cX4_withSide 45 = .ok (.iaload, 1) := by decide +kernel
theorem dX4_withSide_46 : decode cX4_withSide 46 = .ok (.iload_n 1, 1) := by decide +kernel
theorem dX4_withSide_47 : decode cX4_withSide 47 = .ok (.if_icmp .ne 17, 3) := by decide +kernel
theorem dX4_withSide_50 : decode cX4_withSide 50 = .ok (.aload_n 0, 1) := by decide +kernel
theorem dX4_withSide_51 : decode cX4_withSide 51 = .ok (.iload 4, 2) := by decide +kernel
theorem dX4_withSide_53 : decode cX4_withSide 53 = .ok (.iload 5, 2) := by decide +kernel
theorem dX4_withSide_55 : decode cX4_withSide 55 = .ok (.invokevirtual 89, 3) := by decide +kernel
theorem dX4_withSide_58 : decode cX4_withSide 58 = .ok (.iload_n 2, 1) := by decide +kernel
theorem dX4_withSide_59 : decode cX4_withSide 59 = .ok (.if_icmp .ne 5, 3) := by decide +kernel
theorem dX4_withSide_62 : decode cX4_withSide 62 = .ok (.iload_n 3, 1) := by decide +kernel
theorem dX4_withSide_63 : decode cX4_withSide 63 = .ok (.ireturn, 1) := by decide +kernel
theorem dX4_withSide_64 : decode cX4_withSide 64 = .ok (.iinc 5 1, 3) := by decide +kernel
theorem dX4_withSide_67 : decode cX4_withSide 67 = .ok (.goto (-46), 3) := by decide +kernel
theorem dX4_withSide_70 : decode cX4_withSide 70 = .ok (.iinc 3 1, 3) := by decide +kernel
theorem dX4_withSide_73 : decode cX4_withSide 73 = .ok (.goto (-71), 3) := by decide +kernel
theorem dX4_withSide_76 : decode cX4_withSide 76 = .ok (.iconst (-1), 1) := by decide +kernel
theorem dX4_withSide_77 : decode cX4_withSide 77 = .ok (.ireturn, 1) := by decide +kernel
set_option maxRecDepth 20000 in
theorem ggX4_onHull_X4_after : GoodIn wsX4_onHull wsX4_after := goodIn_r _ [8, 3, 2, 14, 15, 16, 17, 18, 19, 20, 21, 22, 23, 24] (by decide +kernel) (by decide +kernel)
set_option maxRecDepth 20000 in
theorem gX4_onHull_X4_after : GoodIn wsX4_onHull (wsV RX4 89 RX4 yX4_after wsX4_after) := goodIn_app (goodIn_of _ (by decide +kernel)) ggX4_onHull_X4_after
set_option maxRecDepth 20000 in
theorem ggX4_onHull_X4_withSide : GoodIn wsX4_onHull wsX4_withSide := goodIn_r _ [12, 1, 13, 2, 3, 4, 5, 6, 7, 8, 14, 15, 16, 17, 18, 19, 20, 21, 22, 23, 24] (by decide +kernel) (by decide +kernel)
set_option maxRecDepth 20000 in
theorem gX4_onHull_X4_withSide : GoodIn wsX4_onHull (wsV RX4 92 RX4 yX4_withSide wsX4_withSide) := goodIn_app (goodIn_of _ (by decide +kernel)) ggX4_onHull_X4_withSide
theorem dX4_onHull_0 : decode cX4_onHull 0 = .ok (.iconst 0, 1) := by decide +kernel
theorem dX4_onHull_1 : decode cX4_onHull 1 = .ok (.istore_n 2, 1) := by decide +kernel
theorem dX4_onHull_2 : decode cX4_onHull 2 = .ok (.iload_n 2, 1) := by decide +kernel
theorem dX4_onHull_3 : decode cX4_onHull 3 = .ok (.aload_n 0, 1) := by decide +kernel
theorem dX4_onHull_4 : decode cX4_onHull 4 = .ok (.getfield 65, 3) := by decide +kernel
theorem dX4_onHull_7 : decode cX4_onHull 7 = .ok (.if_icmp .ge 63, 3) := by decide +kernel
theorem dX4_onHull_10 : decode cX4_onHull 10 = .ok (.iconst 0, 1) := by decide +kernel
theorem dX4_onHull_11 : decode cX4_onHull 11 = .ok (.istore_n 3, 1) := by decide +kernel
theorem dX4_onHull_12 : decode cX4_onHull 12 = .ok (.iload_n 3, 1) := by decide +kernel
theorem dX4_onHull_13 : decode cX4_onHull 13 = .ok (.aload_n 0, 1) := by decide +kernel
theorem dX4_onHull_14 : decode cX4_onHull 14 = .ok (.getfield 16, 3) := by decide +kernel
theorem dX4_onHull_17 : decode cX4_onHull 17 = .ok (.iload_n 2, 1) := by decide +kernel
theorem dX4_onHull_18 : decode cX4_onHull 18 = .ok (.iaload, 1) := by decide +kernel
theorem dX4_onHull_19 : decode cX4_onHull 19 = .ok (.if_icmp .ge 45, 3) := by decide +kernel
theorem dX4_onHull_22 : decode cX4_onHull 22 = .ok (.aload_n 0, 1) := by decide +kernel
theorem dX4_onHull_23 : decode cX4_onHull 23 = .ok (.getfield 19, 3) := by decide +kernel
theorem dX4_onHull_26 : decode cX4_onHull 26 = .ok (.bipush 20, 2) := by decide +kernel
theorem dX4_onHull_28 : decode cX4_onHull 28 = .ok (.iload_n 2, 1) := by decide +kernel
theorem dX4_onHull_29 : decode cX4_onHull 29 = .ok (.imul, 1) := by decide +kernel
theorem dX4_onHull_30 : decode cX4_onHull 30 = .ok (.iload_n 3, 1) := by decide +kernel
theorem dX4_onHull_31 : decode cX4_onHull 31 = .ok (.iadd, 1) := by decide +kernel
theorem dX4_onHull_32 : decode cX4_onHull 32 = .ok (.iaload, 1) := by decide +kernel
theorem dX4_onHull_33 : decode cX4_onHull 33 = .ok (.iload_n 1, 1) := by decide +kernel
theorem dX4_onHull_34 : decode cX4_onHull 34 = .ok (.if_icmp .ne 24, 3) := by decide +kernel
theorem dX4_onHull_37 : decode cX4_onHull 37 = .ok (.aload_n 0, 1) := by decide +kernel
theorem dX4_onHull_38 : decode cX4_onHull 38 = .ok (.aload_n 0, 1) := by decide +kernel
theorem dX4_onHull_39 : decode cX4_onHull 39 = .ok (.iload_n 2, 1) := by decide +kernel
theorem dX4_onHull_40 : decode cX4_onHull 40 = .ok (.iload_n 3, 1) := by decide +kernel
theorem dX4_onHull_41 : decode cX4_onHull 41 = .ok (.invokevirtual 89, 3) := by decide +kernel
theorem dX4_onHull_44 : decode cX4_onHull 44 = .ok (.iload_n 1, 1) := by decide +kernel
theorem dX4_onHull_45 : decode cX4_onHull 45 = .ok (.invokevirtual 92, 3) := by decide +kernel
theorem dX4_onHull_48 : decode cX4_onHull 48 = .ok (.ifCond .ge 10, 3) := by decide +kernel
theorem dX4_onHull_51 : decode cX4_onHull 51 = .ok (.aload_n 0, 1) := by decide +kernel
theorem dX4_onHull_52 : decode cX4_onHull 52 = .ok (.iload_n 2, 1) := by decide +kernel
theorem dX4_onHull_53 : decode cX4_onHull 53 = .ok (.iload_n 3, 1) := by decide +kernel
theorem dX4_onHull_54 : decode cX4_onHull 54 = .ok (.invokevirtual 89, 3) := by decide +kernel
theorem dX4_onHull_57 : decode cX4_onHull 57 = .ok (.ireturn, 1) := by decide +kernel
theorem dX4_onHull_58 : decode cX4_onHull 58 = .ok (.iinc 3 1, 3) := by decide +kernel
theorem dX4_onHull_61 : decode cX4_onHull 61 = .ok (.goto (-49), 3) := by decide +kernel
theorem dX4_onHull_64 : decode cX4_onHull 64 = .ok (.iinc 2 1, 3) := by decide +kernel
theorem dX4_onHull_67 : decode cX4_onHull 67 = .ok (.goto (-65), 3) := by decide +kernel
theorem dX4_onHull_70 : decode cX4_onHull 70 = .ok (.iconst (-1), 1) := by decide +kernel
theorem dX4_onHull_71 : decode cX4_onHull 71 = .ok (.ireturn, 1) := by decide +kernel
set_option maxRecDepth 20000 in
theorem ggX4_surround_X4_onHull : GoodIn wsX4_surround wsX4_onHull := goodIn_r _ [9, 2, 10, 11, 12, 13, 14, 8, 15, 16, 17, 18, 19, 20, 21, 22, 23, 24, 25, 26, 27, 28, 29, 30, 31] (by decide +kernel) (by decide +kernel)
set_option maxRecDepth 20000 in
theorem gX4_surround_X4_onHull : GoodIn wsX4_surround (wsV RX4 95 RX4 yX4_onHull wsX4_onHull) := goodIn_app (goodIn_of _ (by decide +kernel)) ggX4_surround_X4_onHull
theorem dX4_surround_0 : decode cX4_surround 0 = .ok (.iconst 0, 1) := by decide +kernel
theorem dX4_surround_1 : decode cX4_surround 1 = .ok (.istore_n 1, 1) := by decide +kernel
theorem dX4_surround_2 : decode cX4_surround 2 = .ok (.iload_n 1, 1) := by decide +kernel
theorem dX4_surround_3 : decode cX4_surround 3 = .ok (.aload_n 0, 1) := by decide +kernel
theorem dX4_surround_4 : decode cX4_surround 4 = .ok (.getfield 32, 3) := by decide +kernel
theorem dX4_surround_7 : decode cX4_surround 7 = .ok (.if_icmp .ge 17, 3) := by decide +kernel
theorem dX4_surround_10 : decode cX4_surround 10 = .ok (.aload_n 0, 1) := by decide +kernel
theorem dX4_surround_11 : decode cX4_surround 11 = .ok (.iload_n 1, 1) := by decide +kernel
theorem dX4_surround_12 : decode cX4_surround 12 = .ok (.invokevirtual 95, 3) := by decide +kernel
theorem dX4_surround_15 : decode cX4_surround 15 = .ok (.ifCond .ge 9, 3) := by decide +kernel
theorem dX4_surround_18 : decode cX4_surround 18 = .ok (.iinc 1 1, 3) := by decide +kernel
theorem dX4_surround_21 : decode cX4_surround 21 = .ok (.goto (-19), 3) := by decide +kernel
theorem dX4_surround_24 : decode cX4_surround 24 = .ok (.aload_n 0, 1) := by decide +kernel
theorem dX4_surround_25 : decode cX4_surround 25 = .ok (.getfield 65, 3) := by decide +kernel
theorem dX4_surround_28 : decode cX4_surround 28 = .ok (.ifCond .ne 4, 3) := by decide +kernel
theorem dX4_surround_31 : decode cX4_surround 31 = .ok (.return_, 1) := by decide +kernel
theorem dX4_surround_32 : decode cX4_surround 32 = .ok (.iload_n 1, 1) := by decide +kernel
theorem dX4_surround_33 : decode cX4_surround 33 = .ok (.istore_n 2, 1) := by decide +kernel
theorem dX4_surround_34 : decode cX4_surround 34 = .ok (.aload_n 0, 1) := by decide +kernel
theorem dX4_surround_35 : decode cX4_surround 35 = .ok (.getfield 72, 3) := by decide +kernel
theorem dX4_surround_38 : decode cX4_surround 38 = .ok (.ifCond .eq 8, 3) := by decide +kernel
theorem dX4_surround_41 : decode cX4_surround 41 = .ok (.iload_n 2, 1) := by decide +kernel
theorem dX4_surround_42 : decode cX4_surround 42 = .ok (.iload_n 1, 1) := by decide +kernel
theorem dX4_surround_43 : decode cX4_surround 43 = .ok (.if_icmp .eq 32, 3) := by decide +kernel
theorem dX4_surround_46 : decode cX4_surround 46 = .ok (.aload_n 0, 1) := by decide +kernel
theorem dX4_surround_47 : decode cX4_surround 47 = .ok (.getfield 25, 3) := by decide +kernel
theorem dX4_surround_50 : decode cX4_surround 50 = .ok (.aload_n 0, 1) := by decide +kernel
theorem dX4_surround_51 : decode cX4_surround 51 = .ok (.getfield 72, 3) := by decide +kernel
theorem dX4_surround_54 : decode cX4_surround 54 = .ok (.iload_n 2, 1) := by decide +kernel
theorem dX4_surround_55 : decode cX4_surround 55 = .ok (.iastore, 1) := by decide +kernel
theorem dX4_surround_56 : decode cX4_surround 56 = .ok (.aload_n 0, 1) := by decide +kernel
theorem dX4_surround_57 : decode cX4_surround 57 = .ok (.dup, 1) := by decide +kernel
theorem dX4_surround_58 : decode cX4_surround 58 = .ok (.getfield 72, 3) := by decide +kernel
theorem dX4_surround_61 : decode cX4_surround 61 = .ok (.iconst 1, 1) := by decide +kernel
theorem dX4_surround_62 : decode cX4_surround 62 = .ok (.iadd, 1) := by decide +kernel
theorem dX4_surround_63 : decode cX4_surround 63 = .ok (.putfield 72, 3) := by decide +kernel
theorem dX4_surround_66 : decode cX4_surround 66 = .ok (.aload_n 0, 1) := by decide +kernel
theorem dX4_surround_67 : decode cX4_surround 67 = .ok (.iload_n 2, 1) := by decide +kernel
theorem dX4_surround_68 : decode cX4_surround 68 = .ok (.invokevirtual 95, 3) := by decide +kernel
theorem dX4_surround_71 : decode cX4_surround 71 = .ok (.istore_n 2, 1) := by decide +kernel
theorem dX4_surround_72 : decode cX4_surround 72 = .ok (.goto (-38), 3) := by decide +kernel
theorem dX4_surround_75 : decode cX4_surround 75 = .ok (.return_, 1) := by decide +kernel
set_option maxRecDepth 20000 in
theorem ggX4_cells_X4_make : GoodIn wsX4_cells wsX4_make := goodIn_r _ [7, 8, 2, 9, 10, 11, 12, 13, 14, 15, 16, 6, 17, 18, 19, 20, 21, 22, 23, 24, 25, 26, 27, 28, 29, 30, 31, 32, 33, 34, 35, 36, 37, 38, 39, 40, 41, 42, 43, 44, 45, 46, 47, 48, 49, 50, 51, 52, 53, 54, 55, 56, 57, 58, 59, 60, 61, 62, 63, 64, 65, 66, 67, 68, 69, 70, 71] (by decide +kernel) (by decide +kernel)
set_option maxRecDepth 20000 in
theorem gX4_cells_X4_make : GoodIn wsX4_cells (wsV RX4 99 RX4 yX4_make wsX4_make) := goodIn_app (goodIn_of _ (by decide +kernel)) ggX4_cells_X4_make
theorem dX4_cells_0 : decode cX4_cells 0 = .ok (.aload_n 0, 1) := by decide +kernel
theorem dX4_cells_1 : decode cX4_cells 1 = .ok (.iconst 0, 1) := by decide +kernel
theorem dX4_cells_2 : decode cX4_cells 2 = .ok (.putfield 28, 3) := by decide +kernel
theorem dX4_cells_5 : decode cX4_cells 5 = .ok (.aload_n 0, 1) := by decide +kernel
theorem dX4_cells_6 : decode cX4_cells 6 = .ok (.invokevirtual 99, 3) := by decide +kernel
theorem dX4_cells_9 : decode cX4_cells 9 = .ok (.aload_n 0, 1) := by decide +kernel
theorem dX4_cells_10 : decode cX4_cells 10 = .ok (.getfield 65, 3) := by decide +kernel
theorem dX4_cells_13 : decode cX4_cells 13 = .ok (.ireturn, 1) := by decide +kernel
set_option maxRecDepth 20000 in
theorem ggX4_cell_X4_make : GoodIn wsX4_cell wsX4_make := goodIn_r _ [9, 10, 1, 11, 12, 13, 14, 2, 15, 16, 17, 8, 18, 19, 20, 21, 22, 23, 24, 25, 26, 27, 28, 29, 30, 31, 32, 33, 34, 4, 3, 35, 36, 37, 38, 39, 40, 41, 42, 43, 44, 45, 46, 47, 48, 49, 50, 51, 52, 53, 54, 55, 56, 57, 58, 59, 68, 69, 70, 71, 72, 73, 74, 75, 76, 77, 78] (by decide +kernel) (by decide +kernel)
set_option maxRecDepth 20000 in
theorem gX4_cell_X4_make : GoodIn wsX4_cell (wsV RX4 99 RX4 yX4_make wsX4_make) := goodIn_app (goodIn_of _ (by decide +kernel)) ggX4_cell_X4_make
set_option maxRecDepth 20000 in
theorem ggX4_cell_X4_out : GoodIn wsX4_cell wsX4_out := goodIn_r _ [62] (by decide +kernel) (by decide +kernel)
set_option maxRecDepth 20000 in
theorem gX4_cell_X4_out : GoodIn wsX4_cell (va_wsS RX4 51 yX4_out wsX4_out) := goodIn_app (goodIn_of _ (by decide +kernel)) ggX4_cell_X4_out
set_option maxRecDepth 20000 in
theorem ggX4_cell_X4_throwing : GoodIn wsX4_cell wsX4_throwing := goodIn_r _ [66, 67, 68, 69, 70, 71, 72, 73, 74, 75, 76, 77, 78] (by decide +kernel) (by decide +kernel)
set_option maxRecDepth 20000 in
theorem gX4_cell_X4_throwing : GoodIn wsX4_cell (wsV RX4 43 RX4 yX4_throwing wsX4_throwing) := goodIn_app (goodIn_of _ (by decide +kernel)) ggX4_cell_X4_throwing
theorem dX4_cell_0 : decode cX4_cell 0 = .ok (.aload_n 0, 1) := by decide +kernel
theorem dX4_cell_1 : decode cX4_cell 1 = .ok (.invokevirtual 99, 3) := by decide +kernel
theorem dX4_cell_4 : decode cX4_cell 4 = .ok (.iload_n 1, 1) := by decide +kernel
theorem dX4_cell_5 : decode cX4_cell 5 = .ok (.aload_n 0, 1) := by decide +kernel
theorem dX4_cell_6 : decode cX4_cell 6 = .ok (.getfield 65, 3) := by decide +kernel
theorem dX4_cell_9 : decode cX4_cell 9 = .ok (.invokestatic 51, 3) := by decide +kernel
theorem dX4_cell_12 : decode cX4_cell 12 = .ok (.istore_n 3, 1) := by decide +kernel
theorem dX4_cell_13 : decode cX4_cell 13 = .ok (.iload_n 3, 1) := by decide +kernel
theorem dX4_cell_14 : decode cX4_cell 14 = .ok (.ifCond .eq 7, 3) := by decide +kernel
theorem dX4_cell_17 : decode cX4_cell 17 = .ok (.iconst 0, 1) := by decide +kernel
theorem dX4_cell_18 : decode cX4_cell 18 = .ok (.goto 9, 3) := by decide +kernel
theorem dX4_cell_21 : decode cX4_cell 21 = .ok (.aload_n 0, 1) := by decide +kernel
theorem dX4_cell_22 : decode cX4_cell 22 = .ok (.getfield 22, 3) := by decide +kernel
theorem dX4_cell_25 : decode cX4_cell 25 = .ok (.iload_n 1, 1) := by decide +kernel
theorem dX4_cell_26 : decode cX4_cell 26 = .ok (.iaload, 1) := by decide +kernel
theorem dX4_cell_27 : decode cX4_cell 27 = .ok (.istore 4, 2) := by decide +kernel
theorem dX4_cell_29 : decode cX4_cell 29 = .ok (.aload_n 0, 1) := by decide +kernel
theorem dX4_cell_30 : decode cX4_cell 30 = .ok (.iload_n 3, 1) := by decide +kernel
theorem dX4_cell_31 : decode cX4_cell 31 = .ok (.iload_n 2, 1) := by decide +kernel
theorem dX4_cell_32 : decode cX4_cell 32 = .ok (.iconst (-1), 1) := by decide +kernel
theorem dX4_cell_33 : decode cX4_cell 33 = .ok (.if_icmp .lt 14, 3) := by decide +kernel
theorem dX4_cell_36 : decode cX4_cell 36 = .ok (.iload_n 2, 1) := by decide +kernel
theorem dX4_cell_37 : decode cX4_cell 37 = .ok (.aload_n 0, 1) := by decide +kernel
theorem dX4_cell_38 : decode cX4_cell 38 = .ok (.getfield 16, 3) := by decide +kernel
theorem dX4_cell_41 : decode cX4_cell 41 = .ok (.iload 4, 2) := by decide +kernel
theorem dX4_cell_43 : decode cX4_cell 43 = .ok (.iaload, 1) := by decide +kernel
theorem dX4_cell_44 : decode cX4_cell 44 = .ok (.if_icmp .lt 7, 3) := by decide +kernel
theorem dX4_cell_47 : decode cX4_cell 47 = .ok (.iconst 1, 1) := by decide +kernel
theorem dX4_cell_48 : decode cX4_cell 48 = .ok (.goto 4, 3) := by decide +kernel
theorem dX4_cell_51 : decode cX4_cell 51 = .ok (.iconst 0, 1) := by decide +kernel
theorem dX4_cell_52 : decode cX4_cell 52 = .ok (.invokevirtual 43, 3) := by decide +kernel
theorem dX4_cell_55 : decode cX4_cell 55 = .ok (.ifCond .eq 5, 3) := by decide +kernel
theorem dX4_cell_58 : decode cX4_cell 58 = .ok (.iconst 0, 1) := by decide +kernel
theorem dX4_cell_59 : decode cX4_cell 59 = .ok (.ireturn, 1) := by decide +kernel
theorem dX4_cell_60 : decode cX4_cell 60 = .ok (.iload_n 2, 1) := by decide +kernel
theorem dX4_cell_61 : decode cX4_cell 61 = .ok (.ifCond .ge 13, 3) := by decide +kernel
theorem dX4_cell_64 : decode cX4_cell 64 = .ok (.aload_n 0, 1) := by decide +kernel
theorem dX4_cell_65 : decode cX4_cell 65 = .ok (.getfield 16, 3) := by decide +kernel
theorem dX4_cell_68 : decode cX4_cell 68 = .ok (.iload 4, 2) := by decide +kernel
theorem dX4_cell_70 : decode cX4_cell 70 = .ok (.iaload, 1) := by decide +kernel
theorem dX4_cell_71 : decode cX4_cell 71 = .ok (.goto 15, 3) := by decide +kernel
theorem dX4_cell_74 : decode cX4_cell 74 = .ok (.aload_n 0, 1) := by decide +kernel
theorem dX4_cell_75 : decode cX4_cell 75 = .ok (.getfield 19, 3) := by decide +kernel
theorem dX4_cell_78 : decode cX4_cell 78 = .ok (.bipush 20, 2) := by decide +kernel
theorem dX4_cell_80 : decode cX4_cell 80 = .ok (.iload 4, 2) := by decide +kernel
theorem dX4_cell_82 : decode cX4_cell 82 = .ok (.imul, 1) := by decide +kernel
theorem dX4_cell_83 : decode cX4_cell 83 = .ok (.iload_n 2, 1) := by decide +kernel
theorem dX4_cell_84 : decode cX4_cell 84 = .ok (.iadd, 1) := by decide +kernel
theorem dX4_cell_85 : decode cX4_cell 85 = .ok (.iaload, 1) := by decide +kernel
theorem dX4_cell_86 : decode cX4_cell 86 = .ok (.ireturn, 1) := by decide +kernel
set_option maxRecDepth 20000 in
theorem ggX4_beside_X4_make : GoodIn wsX4_beside wsX4_make := goodIn_r _ [9, 10, 1, 11, 12, 13, 14, 2, 15, 16, 17, 8, 18, 19, 20, 21, 22, 23, 24, 25, 26, 27, 28, 29, 30, 31, 32, 33, 34, 4, 3, 35, 36, 37, 38, 39, 40, 41, 42, 43, 44, 45, 46, 47, 48, 49, 50, 51, 52, 53, 54, 55, 56, 57, 58, 59, 68, 69, 70, 71, 72, 73, 74, 75, 76, 77, 78] (by decide +kernel) (by decide +kernel)
set_option maxRecDepth 20000 in
theorem gX4_beside_X4_make : GoodIn wsX4_beside (wsV RX4 99 RX4 yX4_make wsX4_make) := goodIn_app (goodIn_of _ (by decide +kernel)) ggX4_beside_X4_make
set_option maxRecDepth 20000 in
theorem ggX4_beside_X4_out : GoodIn wsX4_beside wsX4_out := goodIn_r _ [62] (by decide +kernel) (by decide +kernel)
set_option maxRecDepth 20000 in
theorem gX4_beside_X4_out : GoodIn wsX4_beside (va_wsS RX4 51 yX4_out wsX4_out) := goodIn_app (goodIn_of _ (by decide +kernel)) ggX4_beside_X4_out
set_option maxRecDepth 20000 in
theorem ggX4_beside_X4_throwing : GoodIn wsX4_beside wsX4_throwing := goodIn_r _ [66, 67, 68, 69, 70, 71, 72, 73, 74, 75, 76, 77, 78] (by decide +kernel) (by decide +kernel)
set_option maxRecDepth 20000 in
theorem gX4_beside_X4_throwing : GoodIn wsX4_beside (wsV RX4 43 RX4 yX4_throwing wsX4_throwing) := goodIn_app (goodIn_of _ (by decide +kernel)) ggX4_beside_X4_throwing
set_option maxRecDepth 20000 in
theorem ggX4_beside_X4_after : GoodIn wsX4_beside wsX4_after := goodIn_r _ [55, 4, 3, 68, 69, 70, 71, 72, 73, 74, 75, 76, 77, 78] (by decide +kernel) (by decide +kernel)
set_option maxRecDepth 20000 in
theorem gX4_beside_X4_after : GoodIn wsX4_beside (wsV RX4 89 RX4 yX4_after wsX4_after) := goodIn_app (goodIn_of _ (by decide +kernel)) ggX4_beside_X4_after
set_option maxRecDepth 20000 in
theorem ggX4_beside_X4_withSide : GoodIn wsX4_beside wsX4_withSide := goodIn_r _ [59, 1, 2, 3, 4, 52, 53, 54, 8, 55, 68, 69, 70, 71, 72, 73, 74, 75, 76, 77, 78] (by decide +kernel) (by decide +kernel)
set_option maxRecDepth 20000 in
theorem gX4_beside_X4_withSide : GoodIn wsX4_beside (wsV RX4 92 RX4 yX4_withSide wsX4_withSide) := goodIn_app (goodIn_of _ (by decide +kernel)) ggX4_beside_X4_withSide
theorem dX4_beside_0 : decode cX4_beside 0 = .ok (.aload_n 0, 1) := by decide +kernel
theorem dX4_beside_1 : decode cX4_beside 1 = .ok (.invokevirtual 99, 3) := by decide +kernel
theorem dX4_beside_4 : decode cX4_beside 4 = .ok (.iload_n 1, 1) := by decide +kernel
theorem dX4_beside_5 : decode cX4_beside 5 = .ok (.aload_n 0, 1) := by decide +kernel
theorem dX4_beside_6 : decode cX4_beside 6 = .ok (.getfield 65, 3) := by decide +kernel
theorem dX4_beside_9 : decode cX4_beside 9 = .ok (.invokestatic 51, 3) := by decide +kernel
theorem dX4_beside_12 : decode cX4_beside 12 = .ok (.istore_n 3, 1) := by decide +kernel
theorem dX4_beside_13 : decode cX4_beside 13 = .ok (.iload_n 3, 1) := by decide +kernel
theorem dX4_beside_14 : decode cX4_beside 14 = .ok (.ifCond .eq 7, 3) := by decide +kernel
theorem dX4_beside_17 : decode cX4_beside 17 = .ok (.iconst 0, 1) := by decide +kernel
theorem dX4_beside_18 : decode cX4_beside 18 = .ok (.goto 9, 3) := by decide +kernel
theorem dX4_beside_21 : decode cX4_beside 21 = .ok (.aload_n 0, 1) := by decide +kernel
theorem dX4_beside_22 : decode cX4_beside 22 = .ok (.getfield 22, 3) := by decide +kernel
theorem dX4_beside_25 : decode cX4_beside 25 = .ok (.iload_n 1, 1) := by decide +kernel
theorem dX4_beside_26 : decode cX4_beside 26 = .ok (.iaload, 1) := by decide +kernel
theorem dX4_beside_27 : decode cX4_beside 27 = .ok (.istore 4, 2) := by decide +kernel
theorem dX4_beside_29 : decode cX4_beside 29 = .ok (.aload_n 0, 1) := by decide +kernel
theorem dX4_beside_30 : decode cX4_beside 30 = .ok (.iload_n 3, 1) := by decide +kernel
theorem dX4_beside_31 : decode cX4_beside 31 = .ok (.iload_n 2, 1) := by decide +kernel
theorem dX4_beside_32 : decode cX4_beside 32 = .ok (.aload_n 0, 1) := by decide +kernel
theorem dX4_beside_33 : decode cX4_beside 33 = .ok (.getfield 16, 3) := by decide +kernel
theorem dX4_beside_36 : decode cX4_beside 36 = .ok (.iload 4, 2) := by decide +kernel
theorem dX4_beside_38 : decode cX4_beside 38 = .ok (.iaload, 1) := by decide +kernel
theorem dX4_beside_39 : decode cX4_beside 39 = .ok (.invokestatic 51, 3) := by decide +kernel
theorem dX4_beside_42 : decode cX4_beside 42 = .ok (.invokevirtual 43, 3) := by decide +kernel
theorem dX4_beside_45 : decode cX4_beside 45 = .ok (.ifCond .eq 5, 3) := by decide +kernel
theorem dX4_beside_48 : decode cX4_beside 48 = .ok (.iconst 0, 1) := by decide +kernel
theorem dX4_beside_49 : decode cX4_beside 49 = .ok (.ireturn, 1) := by decide +kernel
theorem dX4_beside_50 : decode cX4_beside 50 = .ok (.aload_n 0, 1) := by decide +kernel
theorem dX4_beside_51 : decode cX4_beside 51 = .ok (.aload_n 0, 1) := by decide +kernel
theorem dX4_beside_52 : decode cX4_beside 52 = .ok (.iload 4, 2) := by decide +kernel
theorem dX4_beside_54 : decode cX4_beside 54 = .ok (.iload_n 2, 1) := by decide +kernel
theorem dX4_beside_55 : decode cX4_beside 55 = .ok (.invokevirtual 89, 3) := by decide +kernel
theorem dX4_beside_58 : decode cX4_beside 58 = .ok (.aload_n 0, 1) := by decide +kernel
theorem dX4_beside_59 : decode cX4_beside 59 = .ok (.getfield 19, 3) := by decide +kernel
theorem dX4_beside_62 : decode cX4_beside 62 = .ok (.bipush 20, 2) := by decide +kernel
theorem dX4_beside_64 : decode cX4_beside 64 = .ok (.iload 4, 2) := by decide +kernel
theorem dX4_beside_66 : decode cX4_beside 66 = .ok (.imul, 1) := by decide +kernel
theorem dX4_beside_67 : decode cX4_beside 67 = .ok (.iload_n 2, 1) := by decide +kernel
theorem dX4_beside_68 : decode cX4_beside 68 = .ok (.iadd, 1) := by decide +kernel
theorem dX4_beside_69 : decode cX4_beside 69 = .ok (.iaload, 1) := by decide +kernel
theorem dX4_beside_70 : decode cX4_beside 70 = .ok (.invokevirtual 92, 3) := by decide +kernel
theorem dX4_beside_73 : decode cX4_beside 73 = .ok (.ireturn, 1) := by decide +kernel
theorem dX4_divisor_0 : decode cX4_divisor 0 = .ok (.lload_n 0, 1) := by decide +kernel
theorem dX4_divisor_1 : decode cX4_divisor 1 = .ok (.lconst 0, 1) := by decide +kernel
theorem dX4_divisor_2 : decode cX4_divisor 2 = .ok (.lcmp, 1) := by decide +kernel
theorem dX4_divisor_3 : decode cX4_divisor 3 = .ok (.ifCond .ge 8, 3) := by decide +kernel
theorem dX4_divisor_6 : decode cX4_divisor 6 = .ok (.lload_n 0, 1) := by decide +kernel
theorem dX4_divisor_7 : decode cX4_divisor 7 = .ok (.lneg, 1) := by decide +kernel
theorem dX4_divisor_8 : decode cX4_divisor 8 = .ok (.goto 4, 3) := by decide +kernel
theorem dX4_divisor_11 : decode cX4_divisor 11 = .ok (.lload_n 0, 1) := by decide +kernel
theorem dX4_divisor_12 : decode cX4_divisor 12 = .ok (.lstore 4, 2) := by decide +kernel
theorem dX4_divisor_14 : decode cX4_divisor 14 = .ok (.lload_n 2, 1) := by decide +kernel
theorem dX4_divisor_15 : decode cX4_divisor 15 = .ok (.lconst 0, 1) := by decide +kernel
theorem dX4_divisor_16 : decode cX4_divisor 16 = .ok (.lcmp, 1) := by decide +kernel
theorem dX4_divisor_17 : decode cX4_divisor 17 = .ok (.ifCond .ge 8, 3) := by decide +kernel
theorem dX4_divisor_20 : decode cX4_divisor 20 = .ok (.lload_n 2, 1) := by decide +kernel
theorem dX4_divisor_21 : decode cX4_divisor 21 = .ok (.lneg, 1) := by decide +kernel
theorem dX4_divisor_22 : decode cX4_divisor 22 = .ok (.goto 4, 3) := by decide +kernel
theorem dX4_divisor_25 : decode cX4_divisor 25 = .ok (.lload_n 2, 1) := by decide +kernel
theorem dX4_divisor_26 : decode cX4_divisor 26 = .ok (.lstore 6, 2) := by decide +kernel
theorem dX4_divisor_28 : decode cX4_divisor 28 = .ok (.lload 4, 2) := by decide +kernel
theorem dX4_divisor_30 : decode cX4_divisor 30 = .ok (.lconst 0, 1) := by decide +kernel
theorem dX4_divisor_31 : decode cX4_divisor 31 = .ok (.lcmp, 1) := by decide +kernel
theorem dX4_divisor_32 : decode cX4_divisor 32 = .ok (.ifCond .le 38, 3) := by decide +kernel
theorem dX4_divisor_35 : decode cX4_divisor 35 = .ok (.lload 6, 2) := by decide +kernel
theorem dX4_divisor_37 : decode cX4_divisor 37 = .ok (.lconst 0, 1) := by decide +kernel
theorem dX4_divisor_38 : decode cX4_divisor 38 = .ok (.lcmp, 1) := by decide +kernel
theorem dX4_divisor_39 : decode cX4_divisor 39 = .ok (.ifCond .le 31, 3) := by decide +kernel
theorem dX4_divisor_42 : decode cX4_divisor 42 = .ok (.lload 4, 2) := by decide +kernel
theorem dX4_divisor_44 : decode cX4_divisor 44 = .ok (.lload 6, 2) := by decide +kernel
theorem dX4_divisor_46 : decode cX4_divisor 46 = .ok (.lcmp, 1) := by decide +kernel
theorem dX4_divisor_47 : decode cX4_divisor 47 = .ok (.ifCond .le 13, 3) := by decide +kernel
theorem dX4_divisor_50 : decode cX4_divisor 50 = .ok (.lload 4, 2) := by decide +kernel
theorem dX4_divisor_52 : decode cX4_divisor 52 = .ok (.lload 6, 2) := by decide +kernel
theorem dX4_divisor_54 : decode cX4_divisor 54 = .ok (.lrem, 1) := by decide +kernel
theorem dX4_divisor_55 : decode cX4_divisor 55 = .ok (.lstore 4, 2) := by decide +kernel
theorem dX4_divisor_57 : decode cX4_divisor 57 = .ok (.goto (-29), 3) := by decide +kernel
theorem dX4_divisor_60 : decode cX4_divisor 60 = .ok (.lload 6, 2) := by decide +kernel
theorem dX4_divisor_62 : decode cX4_divisor 62 = .ok (.lload 4, 2) := by decide +kernel
theorem dX4_divisor_64 : decode cX4_divisor 64 = .ok (.lrem, 1) := by decide +kernel
theorem dX4_divisor_65 : decode cX4_divisor 65 = .ok (.lstore 6, 2) := by decide +kernel
theorem dX4_divisor_67 : decode cX4_divisor 67 = .ok (.goto (-39), 3) := by decide +kernel
theorem dX4_divisor_70 : decode cX4_divisor 70 = .ok (.lload 4, 2) := by decide +kernel
theorem dX4_divisor_72 : decode cX4_divisor 72 = .ok (.lload 6, 2) := by decide +kernel
theorem dX4_divisor_74 : decode cX4_divisor 74 = .ok (.ladd, 1) := by decide +kernel
theorem dX4_divisor_75 : decode cX4_divisor 75 = .ok (.lreturn, 1) := by decide +kernel
set_option maxRecDepth 20000 in
theorem ggX4_centre_X4_make : GoodIn wsX4_centre wsX4_make := goodIn_r _ [12, 13, 1, 14, 15, 5, 6, 3, 16, 17, 18, 11, 19, 20, 21, 22, 23, 24, 25, 26, 27, 28, 29, 30, 31, 32, 33, 34, 35, 4, 36, 37, 38, 39, 40, 41, 42, 43, 44, 45, 46, 47, 48, 49, 50, 51, 52, 53, 54, 55, 56, 57, 58, 59, 60, 61, 68, 69, 70, 71, 72, 73, 74, 75, 76, 77, 78] (by decide +kernel) (by decide +kernel)
set_option maxRecDepth 20000 in
theorem gX4_centre_X4_make : GoodIn wsX4_centre (wsV RX4 99 RX4 yX4_make wsX4_make) := goodIn_app (goodIn_of _ (by decide +kernel)) ggX4_centre_X4_make
set_option maxRecDepth 20000 in
theorem ggX4_centre_X4_out : GoodIn wsX4_centre wsX4_out := goodIn_r _ [64] (by decide +kernel) (by decide +kernel)
set_option maxRecDepth 20000 in
theorem gX4_centre_X4_out : GoodIn wsX4_centre (va_wsS RX4 51 yX4_out wsX4_out) := goodIn_app (goodIn_of _ (by decide +kernel)) ggX4_centre_X4_out
set_option maxRecDepth 20000 in
theorem ggX4_centre_X4_divisor : GoodIn wsX4_centre wsX4_divisor := goodIn_r _ [67] (by decide +kernel) (by decide +kernel)
set_option maxRecDepth 20000 in
theorem gX4_centre_X4_divisor : GoodIn wsX4_centre (va_wsS RX4 104 yX4_divisor wsX4_divisor) := goodIn_app (goodIn_of _ (by decide +kernel)) ggX4_centre_X4_divisor
theorem dX4_centre_0 : decode cX4_centre 0 = .ok (.aload_n 0, 1) := by decide +kernel
theorem dX4_centre_1 : decode cX4_centre 1 = .ok (.invokevirtual 99, 3) := by decide +kernel
theorem dX4_centre_4 : decode cX4_centre 4 = .ok (.iload_n 2, 1) := by decide +kernel
theorem dX4_centre_5 : decode cX4_centre 5 = .ok (.iconst 3, 1) := by decide +kernel
theorem dX4_centre_6 : decode cX4_centre 6 = .ok (.invokestatic 51, 3) := by decide +kernel
theorem dX4_centre_9 : decode cX4_centre 9 = .ok (.istore_n 3, 1) := by decide +kernel
theorem dX4_centre_10 : decode cX4_centre 10 = .ok (.aload_n 0, 1) := by decide +kernel
theorem dX4_centre_11 : decode cX4_centre 11 = .ok (.iload_n 3, 1) := by decide +kernel
theorem dX4_centre_12 : decode cX4_centre 12 = .ok (.ifCond .eq 7, 3) := by decide +kernel
theorem dX4_centre_15 : decode cX4_centre 15 = .ok (.iconst 2, 1) := by decide +kernel
theorem dX4_centre_16 : decode cX4_centre 16 = .ok (.goto 19, 3) := by decide +kernel
theorem dX4_centre_19 : decode cX4_centre 19 = .ok (.iload_n 1, 1) := by decide +kernel
theorem dX4_centre_20 : decode cX4_centre 20 = .ok (.aload_n 0, 1) := by decide +kernel
theorem dX4_centre_21 : decode cX4_centre 21 = .ok (.getfield 65, 3) := by decide +kernel
theorem dX4_centre_24 : decode cX4_centre 24 = .ok (.invokestatic 51, 3) := by decide +kernel
theorem dX4_centre_27 : decode cX4_centre 27 = .ok (.ifCond .eq 7, 3) := by decide +kernel
theorem dX4_centre_30 : decode cX4_centre 30 = .ok (.iconst 1, 1) := by decide +kernel
theorem dX4_centre_31 : decode cX4_centre 31 = .ok (.goto 4, 3) := by decide +kernel
theorem dX4_centre_34 : decode cX4_centre 34 = .ok (.iconst 0, 1) := by decide +kernel
theorem dX4_centre_35 : decode cX4_centre 35 = .ok (.putfield 28, 3) := by decide +kernel
theorem dX4_centre_38 : decode cX4_centre 38 = .ok (.aload_n 0, 1) := by decide +kernel
theorem dX4_centre_39 : decode cX4_centre 39 = .ok (.getfield 28, 3) := by decide +kernel
theorem dX4_centre_42 : decode cX4_centre 42 = .ok (.ifCond .le 5, 3) := by decide +kernel
theorem dX4_centre_45 : decode cX4_centre 45 = .ok (.lconst 0, 1) := by decide +kernel
theorem dX4_centre_46 : decode cX4_centre 46 = .ok (.lreturn, 1) := by decide +kernel
theorem dX4_centre_47 : decode cX4_centre 47 = .ok (.aload_n 0, 1) := by decide +kernel
theorem dX4_centre_48 : decode cX4_centre 48 = .ok (.getfield 22, 3) := by decide +kernel
theorem dX4_centre_51 : decode cX4_centre 51 = .ok (.iload_n 1, 1) := by decide +kernel
theorem dX4_centre_52 : decode cX4_centre 52 = .ok (.iaload, 1) := by decide +kernel
theorem dX4_centre_53 : decode cX4_centre 53 = .ok (.istore 4, 2) := by decide +kernel
theorem dX4_centre_55 : decode cX4_centre 55 = .ok (.aload_n 0, 1) := by decide +kernel
theorem dX4_centre_56 : decode cX4_centre 56 = .ok (.getfield 19, 3) := by decide +kernel
theorem dX4_centre_59 : decode cX4_centre 59 = .ok (.bipush 20, 2) := by decide +kernel
theorem dX4_centre_61 : decode cX4_centre 61 = .ok (.iload 4, 2) := by decide +kernel
theorem dX4_centre_63 : decode cX4_centre 63 = .ok (.imul, 1) := by decide +kernel
theorem dX4_centre_64 : decode cX4_centre 64 = .ok (.iaload, 1) := by decide +kernel
theorem dX4_centre_65 : decode cX4_centre 65 = .ok (.istore 5, 2) := by decide +kernel
theorem dX4_centre_67 : decode cX4_centre 67 = .ok (.aload_n 0, 1) := by decide +kernel
theorem dX4_centre_68 : decode cX4_centre 68 = .ok (.getfield 19, 3) := by decide +kernel
theorem dX4_centre_71 : decode cX4_centre 71 = .ok (.bipush 20, 2) := by decide +kernel
theorem dX4_centre_73 : decode cX4_centre 73 = .ok (.iload 4, 2) := by decide +kernel
theorem dX4_centre_75 : decode cX4_centre 75 = .ok (.imul, 1) := by decide +kernel
theorem dX4_centre_76 : decode cX4_centre 76 = .ok (.iconst 1, 1) := by decide +kernel
theorem dX4_centre_77 : decode cX4_centre 77 = .ok (.iadd, 1) := by decide +kernel
theorem dX4_centre_78 : decode cX4_centre 78 = .ok (.iaload, 1) := by decide +kernel
theorem dX4_centre_79 : decode cX4_centre 79 = .ok (.istore 6, 2) := by decide +kernel
theorem dX4_centre_81 : decode cX4_centre 81 = .ok (.aload_n 0, 1) := by decide +kernel
theorem dX4_centre_82 : decode cX4_centre 82 = .ok (.getfield 19, 3) := by decide +kernel
theorem dX4_centre_85 : decode cX4_centre 85 = .ok (.bipush 20, 2) := by decide +kernel
theorem dX4_centre_87 : decode cX4_centre 87 = .ok (.iload 4, 2) := by decide +kernel
theorem dX4_centre_89 : decode cX4_centre 89 = .ok (.imul, 1) := by decide +kernel
theorem dX4_centre_90 : decode cX4_centre 90 = .ok (.iconst 2, 1) := by decide +kernel
theorem dX4_centre_91 : decode cX4_centre 91 = .ok (.iadd, 1) := by decide +kernel
theorem dX4_centre_92 : decode cX4_centre 92 = .ok (.iaload, 1) := by decide +kernel
theorem dX4_centre_93 : decode cX4_centre 93 = .ok (.istore 7, 2) := by decide +kernel
theorem dX4_centre_95 : decode cX4_centre 95 = .ok (.aload_n 0, 1) := by decide +kernel
theorem dX4_centre_96 : decode cX4_centre 96 = .ok (.getfield 7, 3) := by decide +kernel
theorem dX4_centre_99 : decode cX4_centre 99 = .ok (.iload 5, 2) := by decide +kernel
theorem dX4_centre_101 : decode cX4_centre 101 = .ok (.iaload, 1) := by decide +kernel
theorem dX4_centre_102 : decode cX4_centre 102 = .ok (.i2l, 1) := by decide +kernel
theorem dX4_centre_103 : decode cX4_centre 103 = .ok (.aload_n 0, 1) := by decide +kernel
theorem dX4_centre_104 : decode cX4_centre 104 = .ok (.getfield 7, 3) := by decide +kernel
theorem dX4_centre_107 : decode cX4_centre 107 = .ok (.iload 5, 2) := by decide +kernel
theorem dX4_centre_109 : decode cX4_centre 109 = .ok (.iaload, 1) := by decide +kernel
theorem dX4_centre_110 : decode cX4_centre 110 = .ok (.i2l, 1) := by decide +kernel
theorem dX4_centre_111 : decode cX4_centre 111 = .ok (.lmul, 1) := by decide +kernel
theorem dX4_centre_112 : decode cX4_centre 112 = .ok (.aload_n 0, 1) := by decide +kernel
theorem dX4_centre_113 : decode cX4_centre 113 = .ok (.getfield 13, 3) := by decide +kernel
theorem dX4_centre_116 : decode cX4_centre 116 = .ok (.iload 5, 2) := by decide +kernel
theorem dX4_centre_118 : decode cX4_centre 118 = .ok (.iaload, 1) := by decide +kernel
theorem dX4_centre_119 : decode cX4_centre 119 = .ok (.i2l, 1) := by decide +kernel
theorem dX4_centre_120 : decode cX4_centre 120 = .ok (.aload_n 0, 1) := by decide +kernel
theorem dX4_centre_121 : decode cX4_centre 121 = .ok (.getfield 13, 3) := by decide +kernel
theorem dX4_centre_124 : decode cX4_centre 124 = .ok (.iload 5, 2) := by decide +kernel
theorem dX4_centre_126 : decode cX4_centre 126 = .ok (.iaload, 1) := by decide +kernel
theorem dX4_centre_127 : decode cX4_centre 127 = .ok (.i2l, 1) := by decide +kernel
theorem dX4_centre_128 : decode cX4_centre 128 = .ok (.lmul, 1) := by decide +kernel
theorem dX4_centre_129 : decode cX4_centre 129 = .ok (.ladd, 1) := by decide +kernel
theorem dX4_centre_130 : decode cX4_centre 130 = .ok (.lstore 8, 2) := by decide +kernel
theorem dX4_centre_132 : decode cX4_centre 132 = .ok (.aload_n 0, 1) := by decide +kernel
theorem dX4_centre_133 : decode cX4_centre 133 = .ok (.getfield 7, 3) := by decide +kernel
theorem dX4_centre_136 : decode cX4_centre 136 = .ok (.iload 6, 2) := by decide +kernel
theorem dX4_centre_138 : decode cX4_centre 138 = .ok (.iaload, 1) := by decide +kernel
theorem dX4_centre_139 : decode cX4_centre 139 = .ok (.i2l, 1) := by decide +kernel
theorem dX4_centre_140 : decode cX4_centre 140 = .ok (.aload_n 0, 1) := by decide +kernel
theorem dX4_centre_141 : decode cX4_centre 141 = .ok (.getfield 7, 3) := by decide +kernel
theorem dX4_centre_144 : decode cX4_centre 144 = .ok (.iload 6, 2) := by decide +kernel
theorem dX4_centre_146 : decode cX4_centre 146 = .ok (.iaload, 1) := by decide +kernel
theorem dX4_centre_147 : decode cX4_centre 147 = .ok (.i2l, 1) := by decide +kernel
theorem dX4_centre_148 : decode cX4_centre 148 = .ok (.lmul, 1) := by decide +kernel
theorem dX4_centre_149 : decode cX4_centre 149 = .ok (.aload_n 0, 1) := by decide +kernel
theorem dX4_centre_150 : decode cX4_centre 150 = .ok (.getfield 13, 3) := by decide +kernel
theorem dX4_centre_153 : decode cX4_centre 153 = .ok (.iload 6, 2) := by decide +kernel
theorem dX4_centre_155 : decode cX4_centre 155 = .ok (.iaload, 1) := by decide +kernel
theorem dX4_centre_156 : decode cX4_centre 156 = .ok (.i2l, 1) := by decide +kernel
theorem dX4_centre_157 : decode cX4_centre 157 = .ok (.aload_n 0, 1) := by decide +kernel
theorem dX4_centre_158 : decode cX4_centre 158 = .ok (.getfield 13, 3) := by decide +kernel
theorem dX4_centre_161 : decode cX4_centre 161 = .ok (.iload 6, 2) := by decide +kernel
theorem dX4_centre_163 : decode cX4_centre 163 = .ok (.iaload, 1) := by decide +kernel
theorem dX4_centre_164 : decode cX4_centre 164 = .ok (.i2l, 1) := by decide +kernel
theorem dX4_centre_165 : decode cX4_centre 165 = .ok (.lmul, 1) := by decide +kernel
theorem dX4_centre_166 : decode cX4_centre 166 = .ok (.ladd, 1) := by decide +kernel
theorem dX4_centre_167 : decode cX4_centre 167 = .ok (.lstore 10, 2) := by decide +kernel
theorem dX4_centre_169 : decode cX4_centre 169 = .ok (.aload_n 0, 1) := by decide +kernel
theorem dX4_centre_170 : decode cX4_centre 170 = .ok (.getfield 7, 3) := by decide +kernel
theorem dX4_centre_173 : decode cX4_centre 173 = .ok (.iload 7, 2) := by decide +kernel
theorem dX4_centre_175 : decode cX4_centre 175 = .ok (.iaload, 1) := by decide +kernel
theorem dX4_centre_176 : decode cX4_centre 176 = .ok (.i2l, 1) := by decide +kernel
theorem dX4_centre_177 : decode cX4_centre 177 = .ok (.aload_n 0, 1) := by decide +kernel
theorem dX4_centre_178 : decode cX4_centre 178 = .ok (.getfield 7, 3) := by decide +kernel
theorem dX4_centre_181 : decode cX4_centre 181 = .ok (.iload 7, 2) := by decide +kernel
theorem dX4_centre_183 : decode cX4_centre 183 = .ok (.iaload, 1) := by decide +kernel
theorem dX4_centre_184 : decode cX4_centre 184 = .ok (.i2l, 1) := by decide +kernel
theorem dX4_centre_185 : decode cX4_centre 185 = .ok (.lmul, 1) := by decide +kernel
theorem dX4_centre_186 : decode cX4_centre 186 = .ok (.aload_n 0, 1) := by decide +kernel
theorem dX4_centre_187 : decode cX4_centre 187 = .ok (.getfield 13, 3) := by decide +kernel
theorem dX4_centre_190 : decode cX4_centre 190 = .ok (.iload 7, 2) := by decide +kernel
theorem dX4_centre_192 : decode cX4_centre 192 = .ok (.iaload, 1) := by decide +kernel
theorem dX4_centre_193 : decode cX4_centre 193 = .ok (.i2l, 1) := by decide +kernel
theorem dX4_centre_194 : decode cX4_centre 194 = .ok (.aload_n 0, 1) := by decide +kernel
theorem dX4_centre_195 : decode cX4_centre 195 = .ok (.getfield 13, 3) := by decide +kernel
theorem dX4_centre_198 : decode cX4_centre 198 = .ok (.iload 7, 2) := by decide +kernel
theorem dX4_centre_200 : decode cX4_centre 200 = .ok (.iaload, 1) := by decide +kernel
theorem dX4_centre_201 : decode cX4_centre 201 = .ok (.i2l, 1) := by decide +kernel
theorem dX4_centre_202 : decode cX4_centre 202 = .ok (.lmul, 1) := by decide +kernel
theorem dX4_centre_203 : decode cX4_centre 203 = .ok (.ladd, 1) := by decide +kernel
theorem dX4_centre_204 : decode cX4_centre 204 = .ok (.lstore 12, 2) := by decide +kernel
theorem dX4_centre_206 : decode cX4_centre 206 = .ok (.ldc2_w 102, 3) := by decide +kernel
theorem dX4_centre_209 : decode cX4_centre 209 = .ok (.aload_n 0, 1) := by decide +kernel
theorem dX4_centre_210 : decode cX4_centre 210 = .ok (.getfield 7, 3) := by decide +kernel
theorem dX4_centre_213 : decode cX4_centre 213 = .ok (.iload 5, 2) := by decide +kernel
theorem dX4_centre_215 : decode cX4_centre 215 = .ok (.iaload, 1) := by decide +kernel
theorem dX4_centre_216 : decode cX4_centre 216 = .ok (.i2l, 1) := by decide +kernel
theorem dX4_centre_217 : decode cX4_centre 217 = .ok (.aload_n 0, 1) := by decide +kernel
theorem dX4_centre_218 : decode cX4_centre 218 = .ok (.getfield 13, 3) := by decide +kernel
theorem dX4_centre_221 : decode cX4_centre 221 = .ok (.iload 6, 2) := by decide +kernel
theorem dX4_centre_223 : decode cX4_centre 223 = .ok (.iaload, 1) := by decide +kernel
theorem dX4_centre_224 : decode cX4_centre 224 = .ok (.aload_n 0, 1) := by decide +kernel
theorem dX4_centre_225 : decode cX4_centre 225 = .ok (.getfield 13, 3) := by decide +kernel
theorem dX4_centre_228 : decode cX4_centre 228 = .ok (.iload 7, 2) := by decide +kernel
theorem dX4_centre_230 : decode cX4_centre 230 = .ok (.iaload, 1) := by decide +kernel
theorem dX4_centre_231 : decode cX4_centre 231 = .ok (.isub, 1) := by decide +kernel
theorem dX4_centre_232 : decode cX4_centre 232 = .ok (.i2l, 1) := by decide +kernel
theorem dX4_centre_233 : decode cX4_centre 233 = .ok (.lmul, 1) := by decide +kernel
theorem dX4_centre_234 : decode cX4_centre 234 = .ok (.aload_n 0, 1) := by decide +kernel
theorem dX4_centre_235 : decode cX4_centre 235 = .ok (.getfield 7, 3) := by decide +kernel
theorem dX4_centre_238 : decode cX4_centre 238 = .ok (.iload 6, 2) := by decide +kernel
theorem dX4_centre_240 : decode cX4_centre 240 = .ok (.iaload, 1) := by decide +kernel
theorem dX4_centre_241 : decode cX4_centre 241 = .ok (.i2l, 1) := by decide +kernel
theorem dX4_centre_242 : decode cX4_centre 242 = .ok (.aload_n 0, 1) := by decide +kernel
theorem dX4_centre_243 : decode cX4_centre 243 = .ok (.getfield 13, 3) := by decide +kernel
theorem dX4_centre_246 : decode cX4_centre 246 = .ok (.iload 7, 2) := by decide +kernel
theorem dX4_centre_248 : decode cX4_centre 248 = .ok (.iaload, 1) := by decide +kernel
theorem dX4_centre_249 : decode cX4_centre 249 = .ok (.aload_n 0, 1) := by decide +kernel
theorem dX4_centre_250 : decode cX4_centre 250 = .ok (.getfield 13, 3) := by decide +kernel
theorem dX4_centre_253 : decode cX4_centre 253 = .ok (.iload 5, 2) := by decide +kernel
theorem dX4_centre_255 : decode cX4_centre 255 = .ok (.iaload, 1) := by decide +kernel
theorem dX4_centre_256 : decode cX4_centre 256 = .ok (.isub, 1) := by decide +kernel
theorem dX4_centre_257 : decode cX4_centre 257 = .ok (.i2l, 1) := by decide +kernel
theorem dX4_centre_258 : decode cX4_centre 258 = .ok (.lmul, 1) := by decide +kernel
theorem dX4_centre_259 : decode cX4_centre 259 = .ok (.ladd, 1) := by decide +kernel
theorem dX4_centre_260 : decode cX4_centre 260 = .ok (.aload_n 0, 1) := by decide +kernel
theorem dX4_centre_261 : decode cX4_centre 261 = .ok (.getfield 7, 3) := by decide +kernel
theorem dX4_centre_264 : decode cX4_centre 264 = .ok (.iload 7, 2) := by decide +kernel
theorem dX4_centre_266 : decode cX4_centre 266 = .ok (.iaload, 1) := by decide +kernel
theorem dX4_centre_267 : decode cX4_centre 267 = .ok (.i2l, 1) := by decide +kernel
theorem dX4_centre_268 : decode cX4_centre 268 = .ok (.aload_n 0, 1) := by decide +kernel
theorem dX4_centre_269 : decode cX4_centre 269 = .ok (.getfield 13, 3) := by decide +kernel
theorem dX4_centre_272 : decode cX4_centre 272 = .ok (.iload 5, 2) := by decide +kernel
theorem dX4_centre_274 : decode cX4_centre 274 = .ok (.iaload, 1) := by decide +kernel
theorem dX4_centre_275 : decode cX4_centre 275 = .ok (.aload_n 0, 1) := by decide +kernel
theorem dX4_centre_276 : decode cX4_centre 276 = .ok (.getfield 13, 3) := by decide +kernel
theorem dX4_centre_279 : decode cX4_centre 279 = .ok (.iload 6, 2) := by decide +kernel
theorem dX4_centre_281 : decode cX4_centre 281 = .ok (.iaload, 1) := by decide +kernel
theorem dX4_centre_282 : decode cX4_centre 282 = .ok (.isub, 1) := by decide +kernel
theorem dX4_centre_283 : decode cX4_centre 283 = .ok (.i2l, 1) := by decide +kernel
theorem dX4_centre_284 : decode cX4_centre 284 = .ok (.lmul, 1) := by decide +kernel
theorem dX4_centre_285 : decode cX4_centre 285 = .ok (.ladd, 1) := by decide +kernel
theorem dX4_centre_286 : decode cX4_centre 286 = .ok (.lmul, 1) := by decide +kernel
theorem dX4_centre_287 : decode cX4_centre 287 = .ok (.lstore 14, 2) := by decide +kernel
theorem dX4_centre_289 : decode cX4_centre 289 = .ok (.lload 8, 2) := by decide +kernel
theorem dX4_centre_291 : decode cX4_centre 291 = .ok (.aload_n 0, 1) := by decide +kernel
theorem dX4_centre_292 : decode cX4_centre 292 = .ok (.getfield 13, 3) := by decide +kernel
theorem dX4_centre_295 : decode cX4_centre 295 = .ok (.iload 6, 2) := by decide +kernel
theorem dX4_centre_297 : decode cX4_centre 297 = .ok (.iaload, 1) := by decide +kernel
theorem dX4_centre_298 : decode cX4_centre 298 = .ok (.aload_n 0, 1) := by decide +kernel
theorem dX4_centre_299 : decode cX4_centre 299 = .ok (.getfield 13, 3) := by decide +kernel
theorem dX4_centre_302 : decode cX4_centre 302 = .ok (.iload 7, 2) := by decide +kernel
theorem dX4_centre_304 : decode cX4_centre 304 = .ok (.iaload, 1) := by decide +kernel
theorem dX4_centre_305 : decode cX4_centre 305 = .ok (.isub, 1) := by decide +kernel
theorem dX4_centre_306 : decode cX4_centre 306 = .ok (.i2l, 1) := by decide +kernel
theorem dX4_centre_307 : decode cX4_centre 307 = .ok (.lmul, 1) := by decide +kernel
theorem dX4_centre_308 : decode cX4_centre 308 = .ok (.lload 10, 2) := by decide +kernel
theorem dX4_centre_310 : decode cX4_centre 310 = .ok (.aload_n 0, 1) := by decide +kernel
theorem dX4_centre_311 : decode cX4_centre 311 = .ok (.getfield 13, 3) := by decide +kernel
theorem dX4_centre_314 : decode cX4_centre 314 = .ok (.iload 7, 2) := by decide +kernel
theorem dX4_centre_316 : decode cX4_centre 316 = .ok (.iaload, 1) := by decide +kernel
theorem dX4_centre_317 : decode cX4_centre 317 = .ok (.aload_n 0, 1) := by decide +kernel
theorem dX4_centre_318 : decode cX4_centre 318 = .ok (.getfield 13, 3) := by decide +kernel
theorem dX4_centre_321 : decode cX4_centre 321 = .ok (.iload 5, 2) := by decide +kernel
theorem dX4_centre_323 : decode cX4_centre 323 = .ok (.iaload, 1) := by decide +kernel
theorem dX4_centre_324 : decode cX4_centre 324 = .ok (.isub, 1) := by decide +kernel
theorem dX4_centre_325 : decode cX4_centre 325 = .ok (.i2l, 1) := by decide +kernel
theorem dX4_centre_326 : decode cX4_centre 326 = .ok (.lmul, 1) := by decide +kernel
theorem dX4_centre_327 : decode cX4_centre 327 = .ok (.ladd, 1) := by decide +kernel
theorem dX4_centre_328 : decode cX4_centre 328 = .ok (.lload 12, 2) := by decide +kernel
theorem dX4_centre_330 : decode cX4_centre 330 = .ok (.aload_n 0, 1) := by decide +kernel
theorem dX4_centre_331 : decode cX4_centre 331 = .ok (.getfield 13, 3) := by decide +kernel
theorem dX4_centre_334 : decode cX4_centre 334 = .ok (.iload 5, 2) := by decide +kernel
theorem dX4_centre_336 : decode cX4_centre 336 = .ok (.iaload, 1) := by decide +kernel
theorem dX4_centre_337 : decode cX4_centre 337 = .ok (.aload_n 0, 1) := by decide +kernel
theorem dX4_centre_338 : decode cX4_centre 338 = .ok (.getfield 13, 3) := by decide +kernel
theorem dX4_centre_341 : decode cX4_centre 341 = .ok (.iload 6, 2) := by decide +kernel
theorem dX4_centre_343 : decode cX4_centre 343 = .ok (.iaload, 1) := by decide +kernel
theorem dX4_centre_344 : decode cX4_centre 344 = .ok (.isub, 1) := by decide +kernel
theorem dX4_centre_345 : decode cX4_centre 345 = .ok (.i2l, 1) := by decide +kernel
theorem dX4_centre_346 : decode cX4_centre 346 = .ok (.lmul, 1) := by decide +kernel
theorem dX4_centre_347 : decode cX4_centre 347 = .ok (.ladd, 1) := by decide +kernel
theorem dX4_centre_348 : decode cX4_centre 348 = .ok (.lstore 16, 2) := by decide +kernel
theorem dX4_centre_350 : decode cX4_centre 350 = .ok (.lload 8, 2) := by decide +kernel
theorem dX4_centre_352 : decode cX4_centre 352 = .ok (.aload_n 0, 1) := by decide +kernel
theorem dX4_centre_353 : decode cX4_centre 353 = .ok (.getfield 7, 3) := by decide +kernel
theorem dX4_centre_356 : decode cX4_centre 356 = .ok (.iload 7, 2) := by decide +kernel
theorem dX4_centre_358 : decode cX4_centre 358 = .ok (.iaload, 1) := by decide +kernel
theorem dX4_centre_359 : decode cX4_centre 359 = .ok (.aload_n 0, 1) := by decide +kernel
theorem dX4_centre_360 : decode cX4_centre 360 = .ok (.getfield 7, 3) := by decide +kernel
theorem dX4_centre_363 : decode cX4_centre 363 = .ok (.iload 6, 2) := by decide +kernel
theorem dX4_centre_365 : decode cX4_centre 365 = .ok (.iaload, 1) := by decide +kernel
theorem dX4_centre_366 : decode cX4_centre 366 = .ok (.isub, 1) := by decide +kernel
theorem dX4_centre_367 : decode cX4_centre 367 = .ok (.i2l, 1) := by decide +kernel
theorem dX4_centre_368 : decode cX4_centre 368 = .ok (.lmul, 1) := by decide +kernel
theorem dX4_centre_369 : decode cX4_centre 369 = .ok (.lload 10, 2) := by decide +kernel
theorem dX4_centre_371 : decode cX4_centre 371 = .ok (.aload_n 0, 1) := by decide +kernel
theorem dX4_centre_372 : decode cX4_centre 372 = .ok (.getfield 7, 3) := by decide +kernel
theorem dX4_centre_375 : decode cX4_centre 375 = .ok (.iload 5, 2) := by decide +kernel
theorem dX4_centre_377 : decode cX4_centre 377 = .ok (.iaload, 1) := by decide +kernel
theorem dX4_centre_378 : decode cX4_centre 378 = .ok (.aload_n 0, 1) := by decide +kernel
theorem dX4_centre_379 : decode cX4_centre 379 = .ok (.getfield 7, 3) := by decide +kernel
theorem dX4_centre_382 : decode cX4_centre 382 = .ok (.iload 7, 2) := by decide +kernel
theorem dX4_centre_384 : decode cX4_centre 384 = .ok (.iaload, 1) := by decide +kernel
theorem dX4_centre_385 : decode cX4_centre 385 = .ok (.isub, 1) := by decide +kernel
theorem dX4_centre_386 : decode cX4_centre 386 = .ok (.i2l, 1) := by decide +kernel
theorem dX4_centre_387 : decode cX4_centre 387 = .ok (.lmul, 1) := by decide +kernel
theorem dX4_centre_388 : decode cX4_centre 388 = .ok (.ladd, 1) := by decide +kernel
theorem dX4_centre_389 : decode cX4_centre 389 = .ok (.lload 12, 2) := by decide +kernel
theorem dX4_centre_391 : decode cX4_centre 391 = .ok (.aload_n 0, 1) := by decide +kernel
theorem dX4_centre_392 : decode cX4_centre 392 = .ok (.getfield 7, 3) := by decide +kernel
theorem dX4_centre_395 : decode cX4_centre 395 = .ok (.iload 6, 2) := by decide +kernel
theorem dX4_centre_397 : decode cX4_centre 397 = .ok (.iaload, 1) := by decide +kernel
theorem dX4_centre_398 : decode cX4_centre 398 = .ok (.aload_n 0, 1) := by decide +kernel
theorem dX4_centre_399 : decode cX4_centre 399 = .ok (.getfield 7, 3) := by decide +kernel
theorem dX4_centre_402 : decode cX4_centre 402 = .ok (.iload 5, 2) := by decide +kernel
theorem dX4_centre_404 : decode cX4_centre 404 = .ok (.iaload, 1) := by decide +kernel
theorem dX4_centre_405 : decode cX4_centre 405 = .ok (.isub, 1) := by decide +kernel
theorem dX4_centre_406 : decode cX4_centre 406 = .ok (.i2l, 1) := by decide +kernel
theorem dX4_centre_407 : decode cX4_centre 407 = .ok (.lmul, 1) := by decide +kernel
theorem dX4_centre_408 : decode cX4_centre 408 = .ok (.ladd, 1) := by decide +kernel
theorem dX4_centre_409 : decode cX4_centre 409 = .ok (.lstore 18, 2) := by decide +kernel
theorem dX4_centre_411 : decode cX4_centre 411 = .ok (.lload 16, 2) := by decide +kernel
theorem dX4_centre_413 : decode cX4_centre 413 = .ok (.lload 18, 2) := by decide +kernel
theorem dX4_centre_415 : decode cX4_centre 415 = .ok (.invokestatic 104, 3) := by decide +kernel
theorem dX4_centre_418 : decode cX4_centre 418 = .ok (.lload 14, 2) := by decide +kernel
theorem dX4_centre_420 : decode cX4_centre 420 = .ok (.invokestatic 104, 3) := by decide +kernel
theorem dX4_centre_423 : decode cX4_centre 423 = .ok (.lstore 20, 2) := by decide +kernel
theorem dX4_centre_425 : decode cX4_centre 425 = .ok (.iload_n 2, 1) := by decide +kernel
theorem dX4_centre_426 : decode cX4_centre 426 = .ok (.ifCond .ne 8, 3) := by decide +kernel
theorem dX4_centre_429 : decode cX4_centre 429 = .ok (.lload 16, 2) := by decide +kernel
theorem dX4_centre_431 : decode cX4_centre 431 = .ok (.goto 15, 3) := by decide +kernel
theorem dX4_centre_434 : decode cX4_centre 434 = .ok (.iload_n 2, 1) := by decide +kernel
theorem dX4_centre_435 : decode cX4_centre 435 = .ok (.iconst 1, 1) := by decide +kernel
theorem dX4_centre_436 : decode cX4_centre 436 = .ok (.if_icmp .ne 8, 3) := by decide +kernel
theorem dX4_centre_439 : decode cX4_centre 439 = .ok (.lload 18, 2) := by decide +kernel
theorem dX4_centre_441 : decode cX4_centre 441 = .ok (.goto 5, 3) := by decide +kernel
theorem dX4_centre_444 : decode cX4_centre 444 = .ok (.lload 14, 2) := by decide +kernel
theorem dX4_centre_446 : decode cX4_centre 446 = .ok (.lload 20, 2) := by decide +kernel
theorem dX4_centre_448 : decode cX4_centre 448 = .ok (.ldiv, 1) := by decide +kernel
theorem dX4_centre_449 : decode cX4_centre 449 = .ok (.lreturn, 1) := by decide +kernel
set_option maxRecDepth 20000 in
theorem ggX4_hull_X4_make : GoodIn wsX4_hull wsX4_make := goodIn_r _ [7, 8, 9, 1, 10, 11, 12, 13, 14, 15, 16, 6, 17, 18, 19, 20, 21, 22, 23, 24, 25, 26, 27, 28, 29, 30, 31, 32, 33, 34, 35, 36, 37, 38, 39, 40, 41, 42, 43, 44, 45, 46, 47, 2, 48, 49, 50, 51, 52, 53, 54, 55, 56, 57, 58, 59, 65, 66, 67, 68, 69, 70, 71, 72, 73, 74, 75] (by decide +kernel) (by decide +kernel)
set_option maxRecDepth 20000 in
theorem gX4_hull_X4_make : GoodIn wsX4_hull (wsV RX4 99 RX4 yX4_make wsX4_make) := goodIn_app (goodIn_of _ (by decide +kernel)) ggX4_hull_X4_make
set_option maxRecDepth 20000 in
theorem ggX4_hull_X4_throwing : GoodIn wsX4_hull wsX4_throwing := goodIn_r _ [63, 64, 65, 66, 67, 68, 69, 70, 71, 72, 73, 74, 75] (by decide +kernel) (by decide +kernel)
set_option maxRecDepth 20000 in
theorem gX4_hull_X4_throwing : GoodIn wsX4_hull (wsV RX4 43 RX4 yX4_throwing wsX4_throwing) := goodIn_app (goodIn_of _ (by decide +kernel)) ggX4_hull_X4_throwing
theorem dX4_hull_0 : decode cX4_hull 0 = .ok (.aload_n 0, 1) := by decide +kernel
theorem dX4_hull_1 : decode cX4_hull 1 = .ok (.invokevirtual 99, 3) := by decide +kernel
theorem dX4_hull_4 : decode cX4_hull 4 = .ok (.aload_n 0, 1) := by decide +kernel
theorem dX4_hull_5 : decode cX4_hull 5 = .ok (.iload_n 1, 1) := by decide +kernel
theorem dX4_hull_6 : decode cX4_hull 6 = .ok (.iconst (-1), 1) := by decide +kernel
theorem dX4_hull_7 : decode cX4_hull 7 = .ok (.if_icmp .lt 11, 3) := by decide +kernel
theorem dX4_hull_10 : decode cX4_hull 10 = .ok (.iload_n 1, 1) := by decide +kernel
theorem dX4_hull_11 : decode cX4_hull 11 = .ok (.aload_n 0, 1) := by decide +kernel
theorem dX4_hull_12 : decode cX4_hull 12 = .ok (.getfield 72, 3) := by decide +kernel
theorem dX4_hull_15 : decode cX4_hull 15 = .ok (.if_icmp .lt 7, 3) := by decide +kernel
theorem dX4_hull_18 : decode cX4_hull 18 = .ok (.iconst 1, 1) := by decide +kernel
theorem dX4_hull_19 : decode cX4_hull 19 = .ok (.goto 4, 3) := by decide +kernel
theorem dX4_hull_22 : decode cX4_hull 22 = .ok (.iconst 0, 1) := by decide +kernel
theorem dX4_hull_23 : decode cX4_hull 23 = .ok (.iconst 0, 1) := by decide +kernel
theorem dX4_hull_24 : decode cX4_hull 24 = .ok (.invokevirtual 43, 3) := by decide +kernel
theorem dX4_hull_27 : decode cX4_hull 27 = .ok (.ifCond .eq 5, 3) := by decide +kernel
theorem dX4_hull_30 : decode cX4_hull 30 = .ok (.iconst 0, 1) := by decide +kernel
theorem dX4_hull_31 : decode cX4_hull 31 = .ok (.ireturn, 1) := by decide +kernel
theorem dX4_hull_32 : decode cX4_hull 32 = .ok (.iload_n 1, 1) := by decide +kernel
theorem dX4_hull_33 : decode cX4_hull 33 = .ok (.ifCond .ge 10, 3) := by decide +kernel
theorem dX4_hull_36 : decode cX4_hull 36 = .ok (.aload_n 0, 1) := by decide +kernel
theorem dX4_hull_37 : decode cX4_hull 37 = .ok (.getfield 72, 3) := by decide +kernel
theorem dX4_hull_40 : decode cX4_hull 40 = .ok (.goto 9, 3) := by decide +kernel
theorem dX4_hull_43 : decode cX4_hull 43 = .ok (.aload_n 0, 1) := by decide +kernel
theorem dX4_hull_44 : decode cX4_hull 44 = .ok (.getfield 25, 3) := by decide +kernel
theorem dX4_hull_47 : decode cX4_hull 47 = .ok (.iload_n 1, 1) := by decide +kernel
theorem dX4_hull_48 : decode cX4_hull 48 = .ok (.iaload, 1) := by decide +kernel
theorem dX4_hull_49 : decode cX4_hull 49 = .ok (.ireturn, 1) := by decide +kernel
set_option maxRecDepth 20000 in
theorem ggX4_around_X4_isFar : GoodIn wsX4_around wsX4_isFar := goodIn_r _ [8] (by decide +kernel) (by decide +kernel)
set_option maxRecDepth 20000 in
theorem gX4_around_X4_isFar : GoodIn wsX4_around (va_wsS RX4 35 yX4_isFar wsX4_isFar) := goodIn_app (goodIn_of _ (by decide +kernel)) ggX4_around_X4_isFar
set_option maxRecDepth 20000 in
theorem ggX4_around_X4_throwing : GoodIn wsX4_around wsX4_throwing := goodIn_r _ [12, 13, 68, 69, 70, 71, 72, 73, 74, 75, 76, 77, 78] (by decide +kernel) (by decide +kernel)
set_option maxRecDepth 20000 in
theorem gX4_around_X4_throwing : GoodIn wsX4_around (wsV RX4 43 RX4 yX4_throwing wsX4_throwing) := goodIn_app (goodIn_of _ (by decide +kernel)) ggX4_around_X4_throwing
set_option maxRecDepth 20000 in
theorem ggX4_around_X4_make : GoodIn wsX4_around wsX4_make := goodIn_r _ [17, 18, 1, 19, 20, 21, 22, 2, 23, 24, 25, 7, 26, 27, 28, 29, 30, 31, 32, 33, 34, 35, 36, 37, 38, 39, 40, 41, 42, 4, 3, 43, 44, 45, 46, 47, 48, 49, 50, 51, 52, 53, 54, 55, 56, 57, 58, 59, 60, 61, 62, 63, 64, 65, 66, 67, 68, 69, 70, 71, 72, 73, 74, 75, 76, 77, 78] (by decide +kernel) (by decide +kernel)
set_option maxRecDepth 20000 in
theorem gX4_around_X4_make : GoodIn wsX4_around (wsV RX4 99 RX4 yX4_make wsX4_make) := goodIn_app (goodIn_of _ (by decide +kernel)) ggX4_around_X4_make
set_option maxRecDepth 20000 in
theorem ggX4_around_X4_after : GoodIn wsX4_around wsX4_after := goodIn_r _ [63, 4, 3, 68, 69, 70, 71, 72, 73, 74, 75, 76, 77, 78] (by decide +kernel) (by decide +kernel)
set_option maxRecDepth 20000 in
theorem gX4_around_X4_after : GoodIn wsX4_around (wsV RX4 89 RX4 yX4_after wsX4_after) := goodIn_app (goodIn_of _ (by decide +kernel)) ggX4_around_X4_after
set_option maxRecDepth 20000 in
theorem ggX4_around_X4_turn : GoodIn wsX4_around wsX4_turn := goodIn_r _ [26, 21, 22, 68, 69, 70, 71, 72, 73, 74, 75, 76, 77, 78] (by decide +kernel) (by decide +kernel)
set_option maxRecDepth 20000 in
theorem gX4_around_X4_turn : GoodIn wsX4_around (wsV RX4 62 RX4 yX4_turn wsX4_turn) := goodIn_app (goodIn_of _ (by decide +kernel)) ggX4_around_X4_turn
theorem dX4_around_0 : decode cX4_around 0 = .ok (.aload_n 0, 1) := by decide +kernel
theorem dX4_around_1 : decode cX4_around 1 = .ok (.iload_n 1, 1) := by decide +kernel
theorem dX4_around_2 : decode cX4_around 2 = .ok (.iload_n 2, 1) := by decide +kernel
theorem dX4_around_3 : decode cX4_around 3 = .ok (.invokestatic 35, 3) := by decide +kernel
theorem dX4_around_6 : decode cX4_around 6 = .ok (.iconst 0, 1) := by decide +kernel
theorem dX4_around_7 : decode cX4_around 7 = .ok (.invokevirtual 43, 3) := by decide +kernel
theorem dX4_around_10 : decode cX4_around 10 = .ok (.ifCond .eq 5, 3) := by decide +kernel
theorem dX4_around_13 : decode cX4_around 13 = .ok (.iconst 0, 1) := by decide +kernel
theorem dX4_around_14 : decode cX4_around 14 = .ok (.ireturn, 1) := by decide +kernel
theorem dX4_around_15 : decode cX4_around 15 = .ok (.aload_n 0, 1) := by decide +kernel
theorem dX4_around_16 : decode cX4_around 16 = .ok (.invokevirtual 99, 3) := by decide +kernel
theorem dX4_around_19 : decode cX4_around 19 = .ok (.iconst 0, 1) := by decide +kernel
theorem dX4_around_20 : decode cX4_around 20 = .ok (.istore_n 3, 1) := by decide +kernel
theorem dX4_around_21 : decode cX4_around 21 = .ok (.iload_n 3, 1) := by decide +kernel
theorem dX4_around_22 : decode cX4_around 22 = .ok (.aload_n 0, 1) := by decide +kernel
theorem dX4_around_23 : decode cX4_around 23 = .ok (.getfield 65, 3) := by decide +kernel
theorem dX4_around_26 : decode cX4_around 26 = .ok (.if_icmp .ge 92, 3) := by decide +kernel
theorem dX4_around_29 : decode cX4_around 29 = .ok (.aload_n 0, 1) := by decide +kernel
theorem dX4_around_30 : decode cX4_around 30 = .ok (.getfield 22, 3) := by decide +kernel
theorem dX4_around_33 : decode cX4_around 33 = .ok (.iload_n 3, 1) := by decide +kernel
theorem dX4_around_34 : decode cX4_around 34 = .ok (.iaload, 1) := by decide +kernel
theorem dX4_around_35 : decode cX4_around 35 = .ok (.istore 4, 2) := by decide +kernel
theorem dX4_around_37 : decode cX4_around 37 = .ok (.iconst 1, 1) := by decide +kernel
theorem dX4_around_38 : decode cX4_around 38 = .ok (.istore 5, 2) := by decide +kernel
theorem dX4_around_40 : decode cX4_around 40 = .ok (.iconst 0, 1) := by decide +kernel
theorem dX4_around_41 : decode cX4_around 41 = .ok (.istore 6, 2) := by decide +kernel
theorem dX4_around_43 : decode cX4_around 43 = .ok (.iload 6, 2) := by decide +kernel
theorem dX4_around_45 : decode cX4_around 45 = .ok (.aload_n 0, 1) := by decide +kernel
theorem dX4_around_46 : decode cX4_around 46 = .ok (.getfield 16, 3) := by decide +kernel
theorem dX4_around_49 : decode cX4_around 49 = .ok (.iload 4, 2) := by decide +kernel
theorem dX4_around_51 : decode cX4_around 51 = .ok (.iaload, 1) := by decide +kernel
theorem dX4_around_52 : decode cX4_around 52 = .ok (.if_icmp .ge 53, 3) := by decide +kernel
theorem dX4_around_55 : decode cX4_around 55 = .ok (.iload 5, 2) := by decide +kernel
theorem dX4_around_57 : decode cX4_around 57 = .ok (.ifCond .eq 39, 3) := by decide +kernel
theorem dX4_around_60 : decode cX4_around 60 = .ok (.aload_n 0, 1) := by decide +kernel
theorem dX4_around_61 : decode cX4_around 61 = .ok (.aload_n 0, 1) := by decide +kernel
theorem dX4_around_62 : decode cX4_around 62 = .ok (.getfield 19, 3) := by decide +kernel
theorem dX4_around_65 : decode cX4_around 65 = .ok (.bipush 20, 2) := by decide +kernel
theorem dX4_around_67 : decode cX4_around 67 = .ok (.iload 4, 2) := by decide +kernel
theorem dX4_around_69 : decode cX4_around 69 = .ok (.imul, 1) := by decide +kernel
theorem dX4_around_70 : decode cX4_around 70 = .ok (.iload 6, 2) := by decide +kernel
theorem dX4_around_72 : decode cX4_around 72 = .ok (.iadd, 1) := by decide +kernel
theorem dX4_around_73 : decode cX4_around 73 = .ok (.iaload, 1) := by decide +kernel
theorem dX4_around_74 : decode cX4_around 74 = .ok (.aload_n 0, 1) := by decide +kernel
theorem dX4_around_75 : decode cX4_around 75 = .ok (.iload 4, 2) := by decide +kernel
theorem dX4_around_77 : decode cX4_around 77 = .ok (.iload 6, 2) := by decide +kernel
theorem dX4_around_79 : decode cX4_around 79 = .ok (.invokevirtual 89, 3) := by decide +kernel
theorem dX4_around_82 : decode cX4_around 82 = .ok (.iload_n 1, 1) := by decide +kernel
theorem dX4_around_83 : decode cX4_around 83 = .ok (.iload_n 2, 1) := by decide +kernel
theorem dX4_around_84 : decode cX4_around 84 = .ok (.invokevirtual 62, 3) := by decide +kernel
theorem dX4_around_87 : decode cX4_around 87 = .ok (.lconst 0, 1) := by decide +kernel
theorem dX4_around_88 : decode cX4_around 88 = .ok (.lcmp, 1) := by decide +kernel
theorem dX4_around_89 : decode cX4_around 89 = .ok (.ifCond .lt 7, 3) := by decide +kernel
theorem dX4_around_92 : decode cX4_around 92 = .ok (.iconst 1, 1) := by decide +kernel
theorem dX4_around_93 : decode cX4_around 93 = .ok (.goto 4, 3) := by decide +kernel
theorem dX4_around_96 : decode cX4_around 96 = .ok (.iconst 0, 1) := by decide +kernel
theorem dX4_around_97 : decode cX4_around 97 = .ok (.istore 5, 2) := by decide +kernel
theorem dX4_around_99 : decode cX4_around 99 = .ok (.iinc 6 1, 3) := by decide +kernel
theorem dX4_around_102 : decode cX4_around 102 = .ok (.goto (-59), 3) := by decide +kernel
theorem dX4_around_105 : decode cX4_around 105 = .ok (.iload 5, 2) := by decide +kernel
theorem dX4_around_107 : decode cX4_around 107 = .ok (.ifCond .eq 5, 3) := by decide +kernel
theorem dX4_around_110 : decode cX4_around 110 = .ok (.iload_n 3, 1) := by decide +kernel
theorem dX4_around_111 : decode cX4_around 111 = .ok (.ireturn, 1) := by decide +kernel
theorem dX4_around_112 : decode cX4_around 112 = .ok (.iinc 3 1, 3) := by decide +kernel
theorem dX4_around_115 : decode cX4_around 115 = .ok (.goto (-94), 3) := by decide +kernel
theorem dX4_around_118 : decode cX4_around 118 = .ok (.iconst (-1), 1) := by decide +kernel
theorem dX4_around_119 : decode cX4_around 119 = .ok (.ireturn, 1) := by decide +kernel
set_option maxRecDepth 20000 in
theorem ggX4_nearest_X4_isFar : GoodIn wsX4_nearest wsX4_isFar := goodIn_r _ [7] (by decide +kernel) (by decide +kernel)
set_option maxRecDepth 20000 in
theorem gX4_nearest_X4_isFar : GoodIn wsX4_nearest (va_wsS RX4 35 yX4_isFar wsX4_isFar) := goodIn_app (goodIn_of _ (by decide +kernel)) ggX4_nearest_X4_isFar
set_option maxRecDepth 20000 in
theorem ggX4_nearest_X4_throwing : GoodIn wsX4_nearest wsX4_throwing := goodIn_r _ [11, 12, 13, 14, 15, 16, 17, 18, 19, 20, 21, 22, 23] (by decide +kernel) (by decide +kernel)
set_option maxRecDepth 20000 in
theorem gX4_nearest_X4_throwing : GoodIn wsX4_nearest (wsV RX4 43 RX4 yX4_throwing wsX4_throwing) := goodIn_app (goodIn_of _ (by decide +kernel)) ggX4_nearest_X4_throwing
theorem dX4_nearest_0 : decode cX4_nearest 0 = .ok (.iload_n 1, 1) := by decide +kernel
theorem dX4_nearest_1 : decode cX4_nearest 1 = .ok (.iload_n 2, 1) := by decide +kernel
theorem dX4_nearest_2 : decode cX4_nearest 2 = .ok (.invokestatic 35, 3) := by decide +kernel
theorem dX4_nearest_5 : decode cX4_nearest 5 = .ok (.istore_n 3, 1) := by decide +kernel
theorem dX4_nearest_6 : decode cX4_nearest 6 = .ok (.aload_n 0, 1) := by decide +kernel
theorem dX4_nearest_7 : decode cX4_nearest 7 = .ok (.iload_n 3, 1) := by decide +kernel
theorem dX4_nearest_8 : decode cX4_nearest 8 = .ok (.iload_n 3, 1) := by decide +kernel
theorem dX4_nearest_9 : decode cX4_nearest 9 = .ok (.ifCond .ne 14, 3) := by decide +kernel
theorem dX4_nearest_12 : decode cX4_nearest 12 = .ok (.aload_n 0, 1) := by decide +kernel
theorem dX4_nearest_13 : decode cX4_nearest 13 = .ok (.getfield 32, 3) := by decide +kernel
theorem dX4_nearest_16 : decode cX4_nearest 16 = .ok (.ifCond .ne 7, 3) := by decide +kernel
theorem dX4_nearest_19 : decode cX4_nearest 19 = .ok (.iconst 1, 1) := by decide +kernel
theorem dX4_nearest_20 : decode cX4_nearest 20 = .ok (.goto 4, 3) := by decide +kernel
theorem dX4_nearest_23 : decode cX4_nearest 23 = .ok (.iconst 0, 1) := by decide +kernel
theorem dX4_nearest_24 : decode cX4_nearest 24 = .ok (.invokevirtual 43, 3) := by decide +kernel
theorem dX4_nearest_27 : decode cX4_nearest 27 = .ok (.ifCond .eq 5, 3) := by decide +kernel
theorem dX4_nearest_30 : decode cX4_nearest 30 = .ok (.iconst 0, 1) := by decide +kernel
theorem dX4_nearest_31 : decode cX4_nearest 31 = .ok (.ireturn, 1) := by decide +kernel
theorem dX4_nearest_32 : decode cX4_nearest 32 = .ok (.iconst 0, 1) := by decide +kernel
theorem dX4_nearest_33 : decode cX4_nearest 33 = .ok (.istore 4, 2) := by decide +kernel
theorem dX4_nearest_35 : decode cX4_nearest 35 = .ok (.iconst 1, 1) := by decide +kernel
theorem dX4_nearest_36 : decode cX4_nearest 36 = .ok (.istore 5, 2) := by decide +kernel
theorem dX4_nearest_38 : decode cX4_nearest 38 = .ok (.iload 5, 2) := by decide +kernel
theorem dX4_nearest_40 : decode cX4_nearest 40 = .ok (.aload_n 0, 1) := by decide +kernel
theorem dX4_nearest_41 : decode cX4_nearest 41 = .ok (.getfield 32, 3) := by decide +kernel
theorem dX4_nearest_44 : decode cX4_nearest 44 = .ok (.if_icmp .ge 116, 3) := by decide +kernel
theorem dX4_nearest_47 : decode cX4_nearest 47 = .ok (.aload_n 0, 1) := by decide +kernel
theorem dX4_nearest_48 : decode cX4_nearest 48 = .ok (.getfield 7, 3) := by decide +kernel
theorem dX4_nearest_51 : decode cX4_nearest 51 = .ok (.iload 5, 2) := by decide +kernel
theorem dX4_nearest_53 : decode cX4_nearest 53 = .ok (.iaload, 1) := by decide +kernel
theorem dX4_nearest_54 : decode cX4_nearest 54 = .ok (.iload_n 1, 1) := by decide +kernel
theorem dX4_nearest_55 : decode cX4_nearest 55 = .ok (.isub, 1) := by decide +kernel
theorem dX4_nearest_56 : decode cX4_nearest 56 = .ok (.i2l, 1) := by decide +kernel
theorem dX4_nearest_57 : decode cX4_nearest 57 = .ok (.aload_n 0, 1) := by decide +kernel
theorem dX4_nearest_58 : decode cX4_nearest 58 = .ok (.getfield 7, 3) := by decide +kernel
theorem dX4_nearest_61 : decode cX4_nearest 61 = .ok (.iload 5, 2) := by decide +kernel
theorem dX4_nearest_63 : decode cX4_nearest 63 = .ok (.iaload, 1) := by decide +kernel
theorem dX4_nearest_64 : decode cX4_nearest 64 = .ok (.iload_n 1, 1) := by decide +kernel
theorem dX4_nearest_65 : decode cX4_nearest 65 = .ok (.isub, 1) := by decide +kernel
theorem dX4_nearest_66 : decode cX4_nearest 66 = .ok (.i2l, 1) := by decide +kernel
theorem dX4_nearest_67 : decode cX4_nearest 67 = .ok (.lmul, 1) := by decide +kernel
theorem dX4_nearest_68 : decode cX4_nearest 68 = .ok (.aload_n 0, 1) := by decide +kernel
theorem dX4_nearest_69 : decode cX4_nearest 69 = .ok (.getfield 13, 3) := by decide +kernel
theorem dX4_nearest_72 : decode cX4_nearest 72 = .ok (.iload 5, 2) := by decide +kernel
theorem dX4_nearest_74 : decode cX4_nearest 74 = .ok (.iaload, 1) := by decide +kernel
theorem dX4_nearest_75 : decode cX4_nearest 75 = .ok (.iload_n 2, 1) := by decide +kernel
theorem dX4_nearest_76 : decode cX4_nearest 76 = .ok (.isub, 1) := by decide +kernel
theorem dX4_nearest_77 : decode cX4_nearest 77 = .ok (.i2l, 1) := by decide +kernel
theorem dX4_nearest_78 : decode cX4_nearest 78 = .ok (.aload_n 0, 1) := by decide +kernel
theorem dX4_nearest_79 : decode cX4_nearest 79 = .ok (.getfield 13, 3) := by decide +kernel
theorem dX4_nearest_82 : decode cX4_nearest 82 = .ok (.iload 5, 2) := by decide +kernel
theorem dX4_nearest_84 : decode cX4_nearest 84 = .ok (.iaload, 1) := by decide +kernel
theorem dX4_nearest_85 : decode cX4_nearest 85 = .ok (.iload_n 2, 1) := by decide +kernel
theorem dX4_nearest_86 : decode cX4_nearest 86 = .ok (.isub, 1) := by decide +kernel
theorem dX4_nearest_87 : decode cX4_nearest 87 = .ok (.i2l, 1) := by decide +kernel
theorem dX4_nearest_88 : decode cX4_nearest 88 = .ok (.lmul, 1) := by decide +kernel
theorem dX4_nearest_89 : decode cX4_nearest 89 = .ok (.ladd, 1) := by decide +kernel
theorem dX4_nearest_90 : decode cX4_nearest 90 = .ok (.lstore 6, 2) := by decide +kernel
theorem dX4_nearest_92 : decode cX4_nearest 92 = .ok (.aload_n 0, 1) := by decide +kernel
theorem dX4_nearest_93 : decode cX4_nearest 93 = .ok (.getfield 7, 3) := by decide +kernel
theorem dX4_nearest_96 : decode cX4_nearest 96 = .ok (.iload 4, 2) := by decide +kernel
theorem dX4_nearest_98 : decode cX4_nearest 98 = .ok (.iaload, 1) := by decide +kernel
theorem dX4_nearest_99 : decode cX4_nearest 99 = .ok (.iload_n 1, 1) := by decide +kernel
theorem dX4_nearest_100 : decode cX4_nearest 100 = .ok (.isub, 1) := by decide +kernel
theorem dX4_nearest_101 : decode cX4_nearest 101 = .ok (.i2l, 1) := by decide +kernel
theorem dX4_nearest_102 : decode cX4_nearest 102 = .ok (.aload_n 0, 1) := by decide +kernel
theorem dX4_nearest_103 : decode cX4_nearest 103 = .ok (.getfield 7, 3) := by decide +kernel
theorem dX4_nearest_106 : decode cX4_nearest 106 = .ok (.iload 4, 2) := by decide +kernel
theorem dX4_nearest_108 : decode cX4_nearest 108 = .ok (.iaload, 1) := by decide +kernel
theorem dX4_nearest_109 : decode cX4_nearest 109 = .ok (.iload_n 1, 1) := by decide +kernel
theorem dX4_nearest_110 : decode cX4_nearest 110 = .ok (.isub, 1) := by decide +kernel
theorem dX4_nearest_111 : decode cX4_nearest 111 = .ok (.i2l, 1) := by decide +kernel
theorem dX4_nearest_112 : decode cX4_nearest 112 = .ok (.lmul, 1) := by decide +kernel
theorem dX4_nearest_113 : decode cX4_nearest 113 = .ok (.aload_n 0, 1) := by decide +kernel
theorem dX4_nearest_114 : decode cX4_nearest 114 = .ok (.getfield 13, 3) := by decide +kernel
theorem dX4_nearest_117 : decode cX4_nearest 117 = .ok (.iload 4, 2) := by decide +kernel
theorem dX4_nearest_119 : decode cX4_nearest 119 = .ok (.iaload, 1) := by decide +kernel
theorem dX4_nearest_120 : decode cX4_nearest 120 = .ok (.iload_n 2, 1) := by decide +kernel
theorem dX4_nearest_121 : decode cX4_nearest 121 = .ok (.isub, 1) := by decide +kernel
theorem dX4_nearest_122 : decode cX4_nearest 122 = .ok (.i2l, 1) := by decide +kernel
theorem dX4_nearest_123 : decode cX4_nearest 123 = .ok (.aload_n 0, 1) := by decide +kernel
theorem dX4_nearest_124 : decode cX4_nearest 124 = .ok (.getfield 13, 3) := by decide +kernel
theorem dX4_nearest_127 : decode cX4_nearest 127 = .ok (.iload 4, 2) := by decide +kernel
theorem dX4_nearest_129 : decode cX4_nearest 129 = .ok (.iaload, 1) := by decide +kernel
theorem dX4_nearest_130 : decode cX4_nearest 130 = .ok (.iload_n 2, 1) := by decide +kernel
theorem dX4_nearest_131 : decode cX4_nearest 131 = .ok (.isub, 1) := by decide +kernel
theorem dX4_nearest_132 : decode cX4_nearest 132 = .ok (.i2l, 1) := by decide +kernel
theorem dX4_nearest_133 : decode cX4_nearest 133 = .ok (.lmul, 1) := by decide +kernel
theorem dX4_nearest_134 : decode cX4_nearest 134 = .ok (.ladd, 1) := by decide +kernel
theorem dX4_nearest_135 : decode cX4_nearest 135 = .ok (.lstore 8, 2) := by decide +kernel
theorem dX4_nearest_137 : decode cX4_nearest 137 = .ok (.lload 6, 2) := by decide +kernel
theorem dX4_nearest_139 : decode cX4_nearest 139 = .ok (.lload 8, 2) := by decide +kernel
theorem dX4_nearest_141 : decode cX4_nearest 141 = .ok (.lcmp, 1) := by decide +kernel
theorem dX4_nearest_142 : decode cX4_nearest 142 = .ok (.ifCond .ge 8, 3) := by decide +kernel
theorem dX4_nearest_145 : decode cX4_nearest 145 = .ok (.iload 5, 2) := by decide +kernel
theorem dX4_nearest_147 : decode cX4_nearest 147 = .ok (.goto 5, 3) := by decide +kernel
theorem dX4_nearest_150 : decode cX4_nearest 150 = .ok (.iload 4, 2) := by decide +kernel
theorem dX4_nearest_152 : decode cX4_nearest 152 = .ok (.istore 4, 2) := by decide +kernel
theorem dX4_nearest_154 : decode cX4_nearest 154 = .ok (.iinc 5 1, 3) := by decide +kernel
theorem dX4_nearest_157 : decode cX4_nearest 157 = .ok (.goto (-119), 3) := by decide +kernel
theorem dX4_nearest_160 : decode cX4_nearest 160 = .ok (.iload 4, 2) := by decide +kernel
theorem dX4_nearest_162 : decode cX4_nearest 162 = .ok (.ireturn, 1) := by decide +kernel
end
section
/-! The reference: what its reading methods answer -/
def r_out (k t : Int32) : Bool := if k < 0 then true else if k < t then false else true
def r_far (px py : Int32) : Bool := if px < -400 then true else if 400 < px then true else if py < -400 then true else if py ≤ 400 then false else true
def r_taken (x y : Nat → Int32) (n : Nat) (px py bt : Int32) (t : Bool) (k : Nat) : Bool :=
  if k < n then (if t = true then r_taken x y n px py bt true (k + 1) else if nI k = bt then r_taken x y n px py bt false (k + 1) else if x k = px then (if y k = py then r_taken x y n px py bt true (k + 1) else r_taken x y n px py bt false (k + 1)) else r_taken x y n px py bt false (k + 1)) else t
termination_by n - k
def r_turn (x y : Nat → Int32) (a b : Nat) (px py : Int32) : Int64 := (x b - x a).toInt64 * (py - y a).toInt64 - (y b - y a).toInt64 * (px - x a).toInt64
def r_sq (x y : Nat → Int32) (a b : Nat) : Int64 := (x a - x b).toInt64 * (x a - x b).toInt64 + (y a - y b).toInt64 * (y a - y b).toInt64
def r_ar (x y : Nat → Int32) (a b d : Nat) : Int64 := (x b - x a).toInt64 * (y d - y a).toInt64 - (y b - y a).toInt64 * (x d - x a).toInt64
def r_vv (x y : Nat → Int32) (a b d k : Nat) : Int64 := (r_sq x y a b * (y d - y a).toInt64 - r_sq x y a d * (y b - y a).toInt64) * (x k - x a).toInt64 + (r_sq x y a d * (x b - x a).toInt64 - r_sq x y a b * (x d - x a).toInt64) * (y k - y a).toInt64 - r_ar x y a b d * r_sq x y a k
def r_pow (x y : Nat → Int32) (a b d k : Nat) : Int64 := if r_ar x y a b d ≤ 0 then -r_vv x y a b d k else r_vv x y a b d k
def r_on (x y : Nat → Int32) (n a b d : Nat) (mk : Int32) (k : Nat) : Int32 :=
  if k < n then (if r_pow x y a b d k ≤ 0 then (if ¬ r_pow x y a b d k = 0 then r_on x y n a b d mk (k + 1) else r_on x y n a b d (mk ||| ((1 : Int32) <<< (nI k &&& 31))) (k + 1)) else 0) else mk
termination_by n - k
def r_gd (x y : Nat → Int32) (n : Nat) (mk : Int32) (a k : Nat) (t : Bool) (i : Nat) : Bool :=
  if i < n then (if t = false then r_gd x y n mk a k false (i + 1) else if (mk >>> (nI i &&& 31)) &&& 1 = 0 then r_gd x y n mk a k true (i + 1) else if r_turn x y a k (x i) (y i) < 0 then r_gd x y n mk a k false (i + 1) else r_gd x y n mk a k true (i + 1)) else t
termination_by n - i
def r_behind (x y : Nat → Int32) (n : Nat) (mk : Int32) (a k : Nat) : Nat :=
  if k < n then (if (mk >>> (nI k &&& 31)) &&& 1 = 0 then r_behind x y n mk a (k + 1) else if k = a then r_behind x y n mk a (k + 1) else if r_gd x y n mk a k true 0 = false then r_behind x y n mk a (k + 1) else k) else a
termination_by n - k
def r_bef (sz rd : Nat → Nat) (a b i : Nat) : Bool :=
  if i < sz a then (if i < sz b then (if rd (20 * a + i) = rd (20 * b + i) then r_bef sz rd a b (i + 1) else if rd (20 * b + i) ≤ rd (20 * a + i) then false else true) else if sz b ≤ sz a then false else true) else if sz b ≤ sz a then false else true
termination_by sz a - i
def r_after (sz rd : Nat → Nat) (d i : Nat) : Nat := rd (20 * d + (i + 1) % sz d)
def r_wi (sz rd : Nat → Nat) (d a b i : Nat) : Bool :=
  if i < sz d then (if rd (20 * d + i) = a then (if r_after sz rd d i = b then true else r_wi sz rd d a b (i + 1)) else r_wi sz rd d a b (i + 1)) else false
termination_by sz d - i
def r_ws (od sz rd : Nat → Nat) (n a b k : Nat) : Int32 :=
  if k < n then (if r_wi sz rd (od k) a b 0 = true then nI k else r_ws od sz rd n a b (k + 1)) else -1
termination_by n - k
def r_oi (od sz rd : Nat → Nat) (n v d i : Nat) : Int32 :=
  if i < sz d then (if rd (20 * d + i) = v then (if 0 ≤ r_ws od sz rd n (r_after sz rd d i) v 0 then r_oi od sz rd n v d (i + 1) else nI (r_after sz rd d i)) else r_oi od sz rd n v d (i + 1)) else -1
termination_by sz d - i
def r_oh (od sz rd : Nat → Nat) (n v d : Nat) : Int32 :=
  if d < n then (if r_oi od sz rd n v d 0 = -1 then r_oh od sz rd n v (d + 1) else r_oi od sz rd n v d 0) else -1
termination_by n - d
set_option maxHeartbeats 4000000 in
set_option maxRecDepth 100000 in
theorem c_X4_thrown (l : Launch) (dC : Nat → ClassId) (dI : Nat → Nat → Nat) (o0 xb yb za ua wa va : Nat) (cI : ClassId) (th ns md nc hz : Int32) : Met l yX4_thrown wsX4_thrown ({ frames := 0, cells := 0, slots := 0, locals := 0 }) (q_Pc (dC, dI) [.ref o0] [(o0, .inr (4, [.int th, .int ns, .ref xb, .ref yb, .int md, .int nc, .ref za, .ref ua, .ref wa, .int hz, .ref va]))] []) (k2_QcV (.int th)) 0 0 (fun _ => False) := by
  refine Met.ofW (cc := cX4_thrown) (maxL := 1) (ret := (some .int)) (by decide) rfl ?_
  intro p e s m args below meth c s₁ B hml hv
  obtain ⟨rfl, hP, hK⟩ := hv
  have hx := B.exec
  have hb := B.bytes
  have hr := B.returns
  have hts := atoms_spec (ws := wsX4_thrown) B.pre
  have hown : s.vm.findClass RX4 = some m.cls := findClass_of_methodNamed B.named
  have hlocks := B.notSynchronized
  have hP : va_P (dC, dI) vwCl [(o0, .inr (4, [.int th, .int ns, .ref xb, .ref yb, .int md, .int nc, .ref za, .ref ua, .ref wa, .int hz, .ref va]))] s.heap := hP
  have hl := lv_entry ([.ref o0]) (n := 1) (Nat.le_of_ble_eq_true rfl)
  rw [lg_entry_eq]
  generalize (lg_sl ([.ref o0]) ++ List.replicate (1 - (lg_sl ([.ref o0])).length) Slot.unset).toArray = ls at hl ⊢
  have hl : lv_has ls 1 [(0, .ref o0)] := hl
  refine lv_aload_n hx hb dX4_thrown_0 rfl (lv_at hl 0 rfl) ?_
  refine va_get (D := (dC, dI)) (ci := 4) (v := .int th) (C := RX4) (T := TX4) (N := 11) hx hb hts (by decide +kernel) hown hK hP 0 rfl rfl 0 (by decide) (hts (.fieldLink RX4 28 "CircleCellsModel" "thrown" "I") (by decide +kernel)) (fun _ h9 => h9) rfl dX4_thrown_1 ?_
  exact W.iret (v := th) hx hb hr q_ret (fun _ h => nomatch h) dX4_thrown_4
set_option maxHeartbeats 4000000 in
set_option maxRecDepth 100000 in
theorem c_X4_out (l : Launch) (dC : Nat → ClassId) (dI : Nat → Nat → Nat) (k t : Int32) : Met l yX4_out wsX4_out ({ frames := 0, cells := 0, slots := 0, locals := 0 }) (q_Pc (dC, dI) [.int k, .int t] [] []) (k2_QcV (.int (bI (r_out k t)))) 0 0 (fun _ => False) := by
  refine Met.ofW (cc := cX4_out) (maxL := 2) (ret := (some .boolean)) (by decide) rfl ?_
  intro p e s m args below meth c s₁ B hml hv
  obtain ⟨rfl, hP, hK⟩ := hv
  have hx := B.exec
  have hb := B.bytes
  have hr := B.returns
  have hts := atoms_spec (ws := wsX4_out) B.pre
  have hown : s.vm.findClass RX4 = some m.cls := findClass_of_methodNamed B.named
  have hlocks := B.notSynchronized
  have hP : va_P (dC, dI) vwCl [] s.heap := hP
  have hl := lv_entry ([.int k, .int t]) (n := 2) (Nat.le_of_ble_eq_true rfl)
  rw [lg_entry_eq]
  generalize (lg_sl ([.int k, .int t]) ++ List.replicate (2 - (lg_sl ([.int k, .int t])).length) Slot.unset).toArray = ls at hl ⊢
  have hl : lv_has ls 2 [(0, .int k), (1, .int t)] := hl
  refine lv_iload_n hx hb dX4_out_0 rfl (lv_at hl 0 rfl) ?_
  refine lv_if_lt (tgt := 9) hx hb dX4_out_1 (by decide) (fun c1 => ?_) (fun c1 => ?_)
  · unfold r_out
    rw [if_pos c1]
    refine lv_iconst (v := bI true) hx hb dX4_out_9 (by decide) ?_
    refine lv_goto (tgt := 14) hx hb dX4_out_10 (by decide) ?_
    exact W.zret (v := bI true) hx hb hr (bI_nar _) q_ret (fun _ h => nomatch h) dX4_out_14
  · unfold r_out
    rw [if_neg c1]
    refine lv_iload_n hx hb dX4_out_4 rfl (lv_at hl 0 rfl) ?_
    refine lv_iload_n hx hb dX4_out_5 rfl (lv_at hl 1 rfl) ?_
    refine lv_icmp_lt (tgt := 13) hx hb dX4_out_6 (by decide) (fun c6 => ?_) (fun c6 => ?_)
    · rw [if_pos c6]
      refine lv_iconst (v := bI false) hx hb dX4_out_13 (by decide) ?_
      exact W.zret (v := bI false) hx hb hr (bI_nar _) q_ret (fun _ h => nomatch h) dX4_out_14
    · rw [if_neg c6]
      refine lv_iconst (v := bI true) hx hb dX4_out_9 (by decide) ?_
      refine lv_goto (tgt := 14) hx hb dX4_out_10 (by decide) ?_
      exact W.zret (v := bI true) hx hb hr (bI_nar _) q_ret (fun _ h => nomatch h) dX4_out_14
set_option maxHeartbeats 4000000 in
set_option maxRecDepth 100000 in
theorem c_X4_isFar (l : Launch) (dC : Nat → ClassId) (dI : Nat → Nat → Nat) (px py : Int32) : Met l yX4_isFar wsX4_isFar ({ frames := 0, cells := 0, slots := 0, locals := 0 }) (q_Pc (dC, dI) [.int px, .int py] [] []) (k2_QcV (.int (bI (r_far px py)))) 0 0 (fun _ => False) := by
  refine Met.ofW (cc := cX4_isFar) (maxL := 2) (ret := (some .boolean)) (by decide) rfl ?_
  intro p e s m args below meth c s₁ B hml hv
  obtain ⟨rfl, hP, hK⟩ := hv
  have hx := B.exec
  have hb := B.bytes
  have hr := B.returns
  have hts := atoms_spec (ws := wsX4_isFar) B.pre
  have hown : s.vm.findClass RX4 = some m.cls := findClass_of_methodNamed B.named
  have hlocks := B.notSynchronized
  have hP : va_P (dC, dI) vwCl [] s.heap := hP
  have hl := lv_entry ([.int px, .int py]) (n := 2) (Nat.le_of_ble_eq_true rfl)
  rw [lg_entry_eq]
  generalize (lg_sl ([.int px, .int py]) ++ List.replicate (2 - (lg_sl ([.int px, .int py])).length) Slot.unset).toArray = ls at hl ⊢
  have hl : lv_has ls 2 [(0, .int px), (1, .int py)] := hl
  refine lv_iload_n hx hb dX4_isFar_0 rfl (lv_at hl 0 rfl) ?_
  refine lv_sipush (v := (-400)) hx hb dX4_isFar_1 (by decide) ?_
  refine lv_icmp_lt (tgt := 28) hx hb dX4_isFar_4 (by decide) (fun c4 => ?_) (fun c4 => ?_)
  · unfold r_far
    rw [if_pos c4]
    refine lv_iconst (v := bI true) hx hb dX4_isFar_28 (by decide) ?_
    refine lv_goto (tgt := 33) hx hb dX4_isFar_29 (by decide) ?_
    exact W.zret (v := bI true) hx hb hr (bI_nar _) q_ret (fun _ h => nomatch h) dX4_isFar_33
  · unfold r_far
    rw [if_neg c4]
    refine lv_iload_n hx hb dX4_isFar_7 rfl (lv_at hl 0 rfl) ?_
    refine lv_sipush (v := 400) hx hb dX4_isFar_8 (by decide) ?_
    refine lv_icmp_gt (tgt := 28) hx hb dX4_isFar_11 (by decide) (fun c11 => ?_) (fun c11 => ?_)
    · rw [if_pos c11]
      refine lv_iconst (v := bI true) hx hb dX4_isFar_28 (by decide) ?_
      refine lv_goto (tgt := 33) hx hb dX4_isFar_29 (by decide) ?_
      exact W.zret (v := bI true) hx hb hr (bI_nar _) q_ret (fun _ h => nomatch h) dX4_isFar_33
    · rw [if_neg c11]
      refine lv_iload_n hx hb dX4_isFar_14 rfl (lv_at hl 1 rfl) ?_
      refine lv_sipush (v := (-400)) hx hb dX4_isFar_15 (by decide) ?_
      refine lv_icmp_lt (tgt := 28) hx hb dX4_isFar_18 (by decide) (fun c18 => ?_) (fun c18 => ?_)
      · rw [if_pos c18]
        refine lv_iconst (v := bI true) hx hb dX4_isFar_28 (by decide) ?_
        refine lv_goto (tgt := 33) hx hb dX4_isFar_29 (by decide) ?_
        exact W.zret (v := bI true) hx hb hr (bI_nar _) q_ret (fun _ h => nomatch h) dX4_isFar_33
      · rw [if_neg c18]
        refine lv_iload_n hx hb dX4_isFar_21 rfl (lv_at hl 1 rfl) ?_
        refine lv_sipush (v := 400) hx hb dX4_isFar_22 (by decide) ?_
        refine lv_icmp_le (tgt := 32) hx hb dX4_isFar_25 (by decide) (fun c25 => ?_) (fun c25 => ?_)
        · rw [if_pos c25]
          refine lv_iconst (v := bI false) hx hb dX4_isFar_32 (by decide) ?_
          exact W.zret (v := bI false) hx hb hr (bI_nar _) q_ret (fun _ h => nomatch h) dX4_isFar_33
        · rw [if_neg c25]
          refine lv_iconst (v := bI true) hx hb dX4_isFar_28 (by decide) ?_
          refine lv_goto (tgt := 33) hx hb dX4_isFar_29 (by decide) ?_
          exact W.zret (v := bI true) hx hb hr (bI_nar _) q_ret (fun _ h => nomatch h) dX4_isFar_33
set_option maxHeartbeats 4000000 in
set_option maxRecDepth 100000 in
theorem c_X4_isTaken (l : Launch) (dC : Nat → ClassId) (dI : Nat → Nat → Nat) (o0 xb yb za ua wa va : Nat) (cI : ClassId) (th md nc hz : Int32) (x y : Nat → Int32) (n : Nat) (px py bt : Int32) (ln : n ≤ 20) : Met l yX4_isTaken wsX4_isTaken ({ frames := 0, cells := 0, slots := 0, locals := 0 }) (q_Pc (dC, dI) [.ref o0, .int px, .int py, .int bt] [(o0, .inr (4, [.int th, .int (nI n), .ref xb, .ref yb, .int md, .int nc, .ref za, .ref ua, .ref wa, .int hz, .ref va])), (xb, .inl (cI, 20, .inl x)), (yb, .inl (cI, 20, .inl y))] [(cI, .int)]) (k2_QcV (.int (bI (r_taken x y n px py bt false 0)))) 0 0 (fun _ => False) := by
  refine Met.ofW (cc := cX4_isTaken) (maxL := 6) (ret := (some .boolean)) (by decide) rfl ?_
  intro p e s m args below meth c s₁ B hml hv
  obtain ⟨rfl, hP, hK⟩ := hv
  have hx := B.exec
  have hb := B.bytes
  have hr := B.returns
  have hts := atoms_spec (ws := wsX4_isTaken) B.pre
  have hown : s.vm.findClass RX4 = some m.cls := findClass_of_methodNamed B.named
  have hlocks := B.notSynchronized
  have hP : va_P (dC, dI) vwCl [(o0, .inr (4, [.int th, .int (nI n), .ref xb, .ref yb, .int md, .int nc, .ref za, .ref ua, .ref wa, .int hz, .ref va])), (xb, .inl (cI, 20, .inl x)), (yb, .inl (cI, 20, .inl y))] s.heap := hP
  have hl := lv_entry ([.ref o0, .int px, .int py, .int bt]) (n := 6) (Nat.le_of_ble_eq_true rfl)
  rw [lg_entry_eq]
  generalize (lg_sl ([.ref o0, .int px, .int py, .int bt]) ++ List.replicate (6 - (lg_sl ([.ref o0, .int px, .int py, .int bt])).length) Slot.unset).toArray = ls at hl ⊢
  have hl : lv_has ls 6 [(0, .ref o0), (1, .int px), (2, .int py), (3, .int bt)] := hl
  refine lv_iconst (v := bI false) hx hb dX4_isTaken_0 (by decide) ?_
  refine lv_istore (lv' := [(4, .int (bI false)), (0, .ref o0), (1, .int px), (2, .int py), (3, .int bt)]) hx hb dX4_isTaken_1 hl (by decide) rfl (fun ls hl => ?_)
  refine lv_iconst (v := nI 0) hx hb dX4_isTaken_3 (by decide) ?_
  refine lv_istore (lv' := [(5, .int (nI 0)), (4, .int (bI false)), (0, .ref o0), (1, .int px), (2, .int py), (3, .int bt)]) hx hb dX4_isTaken_4 hl (by decide) rfl (fun ls hl => ?_)
  have loop : ∀ (f : Nat) (t : Bool) (k : Nat) (R : Bool) (ls : Array Slot), (k ≤ n) → (n + 1 ≤ k + f) → r_taken x y n px py bt t k = R → lv_has ls 6 [(0, .ref o0), (1, .int px), (2, .int py), (3, .int bt), (4, .int (bI t)), (5, .int (nI k))] → W p l e (headSpec wsX4_isTaken ({ frames := 0, cells := 0, slots := 0, locals := 0 })).room s m ([.ref o0, .int px, .int py, .int bt] : List Value).toArray below meth c s.heap [] 0 0 (MQ below (k2_QcV (.int (bI R))) ([.ref o0, .int px, .int py, .int bt] : List Value).toArray s 0 0 (fun _ => False)) (F0 m 6 ls []) := by
    intro f
    induction f with
    | zero =>
      intro t k R ls h1 h2
      omega
    | succ f ih_loop =>
      intro t k R ls h1 h2 hF hl
      refine lv_iload hx hb dX4_isTaken_6 (lv_at hl 5 rfl) ?_
      refine lv_aload_n hx hb dX4_isTaken_8 rfl (lv_at hl 0 rfl) ?_
      refine va_get (D := (dC, dI)) (ci := 4) (v := .int (nI n)) (C := RX4) (T := TX4) (N := 11) hx hb hts (by decide +kernel) hown hK hP 0 rfl rfl 1 (by decide) (hts (.fieldLink RX4 32 "CircleCellsModel" "sites" "I") (by decide +kernel)) (fun _ h9 => h9) rfl dX4_isTaken_9 ?_
      refine q_icmp_ge (tgt := 61) (by omega) (by omega) hx hb dX4_isTaken_12 (by decide) (fun c12 => ?_) (fun c12 => ?_)
      · rw [r_taken, if_neg (by omega)] at hF
        subst hF
        refine lv_iload hx hb dX4_isTaken_61 (lv_at hl 4 rfl) ?_
        exact W.zret (v := bI t) hx hb hr (bI_nar _) q_ret (fun _ h => nomatch h) dX4_isTaken_63
      · rw [r_taken, if_pos c12] at hF
        refine lv_iload hx hb dX4_isTaken_15 (lv_at hl 4 rfl) ?_
        refine q_ifb_ne (tgt := 48) hx hb dX4_isTaken_17 (by decide) (fun c17 => ?_) (fun c17 => ?_)
        · rw [if_pos c17] at hF
          refine lv_iconst (v := bI true) hx hb dX4_isTaken_48 (by decide) ?_
          refine lv_goto (tgt := 53) hx hb dX4_isTaken_49 (by decide) ?_
          refine lv_istore (lv' := [(4, .int (bI true)), (0, .ref o0), (1, .int px), (2, .int py), (3, .int bt), (5, .int (nI k))]) hx hb dX4_isTaken_53 hl (by decide) rfl (fun ls hl => ?_)
          refine lv_iinc (v := nI (k + 1)) (lv' := [(5, .int (nI (k + 1))), (4, .int (bI true)), (0, .ref o0), (1, .int px), (2, .int py), (3, .int bt)]) hx hb dX4_isTaken_55 hl (k := 5) rfl (by rw [show Int32.ofInt 1 = 1 from rfl]; exact nI_1 _) (by decide) rfl (fun ls hl => ?_)
          refine lv_goto (tgt := 6) hx hb dX4_isTaken_58 (by decide) ?_
          exact ih_loop true (k + 1) R ls (by omega) (by omega) hF (lv_sub hl [2, 3, 4, 5, 1, 0] rfl)
        · rw [if_neg (by rw [c17]; decide)] at hF
          refine lv_iload hx hb dX4_isTaken_20 (lv_at hl 5 rfl) ?_
          refine lv_iload_n hx hb dX4_isTaken_22 rfl (lv_at hl 3 rfl) ?_
          refine lv_icmp_eq (tgt := 52) hx hb dX4_isTaken_23 (by decide) (fun c23 => ?_) (fun c23 => ?_)
          · rw [if_pos c23] at hF
            refine lv_iconst (v := bI false) hx hb dX4_isTaken_52 (by decide) ?_
            refine lv_istore (lv' := [(4, .int (bI false)), (0, .ref o0), (1, .int px), (2, .int py), (3, .int bt), (5, .int (nI k))]) hx hb dX4_isTaken_53 hl (by decide) rfl (fun ls hl => ?_)
            refine lv_iinc (v := nI (k + 1)) (lv' := [(5, .int (nI (k + 1))), (4, .int (bI false)), (0, .ref o0), (1, .int px), (2, .int py), (3, .int bt)]) hx hb dX4_isTaken_55 hl (k := 5) rfl (by rw [show Int32.ofInt 1 = 1 from rfl]; exact nI_1 _) (by decide) rfl (fun ls hl => ?_)
            refine lv_goto (tgt := 6) hx hb dX4_isTaken_58 (by decide) ?_
            exact ih_loop false (k + 1) R ls (by omega) (by omega) hF (lv_sub hl [2, 3, 4, 5, 1, 0] rfl)
          · rw [if_neg c23] at hF
            refine lv_aload_n hx hb dX4_isTaken_26 rfl (lv_at hl 0 rfl) ?_
            refine va_get (D := (dC, dI)) (ci := 4) (v := .ref xb) (C := RX4) (T := TX4) (N := 11) hx hb hts (by decide +kernel) hown hK hP 0 rfl rfl 2 (by decide) (hts (.fieldLink RX4 7 "CircleCellsModel" "x" "[I") (by decide +kernel)) (fun _ h9 => h9) rfl dX4_isTaken_27 ?_
            refine lv_iload hx hb dX4_isTaken_30 (lv_at hl 5 rfl) ?_
            refine q_iald hx hb hK hP 1 0 rfl rfl (k) rfl (by omega) (by decide) dX4_isTaken_32 ?_
            refine lv_iload_n hx hb dX4_isTaken_33 rfl (lv_at hl 1 rfl) ?_
            refine lv_icmp_ne (tgt := 52) hx hb dX4_isTaken_34 (by decide) (fun c34 => ?_) (fun c34 => ?_)
            · rw [if_neg c34] at hF
              refine lv_iconst (v := bI false) hx hb dX4_isTaken_52 (by decide) ?_
              refine lv_istore (lv' := [(4, .int (bI false)), (0, .ref o0), (1, .int px), (2, .int py), (3, .int bt), (5, .int (nI k))]) hx hb dX4_isTaken_53 hl (by decide) rfl (fun ls hl => ?_)
              refine lv_iinc (v := nI (k + 1)) (lv' := [(5, .int (nI (k + 1))), (4, .int (bI false)), (0, .ref o0), (1, .int px), (2, .int py), (3, .int bt)]) hx hb dX4_isTaken_55 hl (k := 5) rfl (by rw [show Int32.ofInt 1 = 1 from rfl]; exact nI_1 _) (by decide) rfl (fun ls hl => ?_)
              refine lv_goto (tgt := 6) hx hb dX4_isTaken_58 (by decide) ?_
              exact ih_loop false (k + 1) R ls (by omega) (by omega) hF (lv_sub hl [2, 3, 4, 5, 1, 0] rfl)
            · rw [if_pos c34] at hF
              refine lv_aload_n hx hb dX4_isTaken_37 rfl (lv_at hl 0 rfl) ?_
              refine va_get (D := (dC, dI)) (ci := 4) (v := .ref yb) (C := RX4) (T := TX4) (N := 11) hx hb hts (by decide +kernel) hown hK hP 0 rfl rfl 3 (by decide) (hts (.fieldLink RX4 13 "CircleCellsModel" "y" "[I") (by decide +kernel)) (fun _ h9 => h9) rfl dX4_isTaken_38 ?_
              refine lv_iload hx hb dX4_isTaken_41 (lv_at hl 5 rfl) ?_
              refine q_iald hx hb hK hP 2 0 rfl rfl (k) rfl (by omega) (by decide) dX4_isTaken_43 ?_
              refine lv_iload_n hx hb dX4_isTaken_44 rfl (lv_at hl 2 rfl) ?_
              refine lv_icmp_ne (tgt := 52) hx hb dX4_isTaken_45 (by decide) (fun c45 => ?_) (fun c45 => ?_)
              · rw [if_neg c45] at hF
                refine lv_iconst (v := bI false) hx hb dX4_isTaken_52 (by decide) ?_
                refine lv_istore (lv' := [(4, .int (bI false)), (0, .ref o0), (1, .int px), (2, .int py), (3, .int bt), (5, .int (nI k))]) hx hb dX4_isTaken_53 hl (by decide) rfl (fun ls hl => ?_)
                refine lv_iinc (v := nI (k + 1)) (lv' := [(5, .int (nI (k + 1))), (4, .int (bI false)), (0, .ref o0), (1, .int px), (2, .int py), (3, .int bt)]) hx hb dX4_isTaken_55 hl (k := 5) rfl (by rw [show Int32.ofInt 1 = 1 from rfl]; exact nI_1 _) (by decide) rfl (fun ls hl => ?_)
                refine lv_goto (tgt := 6) hx hb dX4_isTaken_58 (by decide) ?_
                exact ih_loop false (k + 1) R ls (by omega) (by omega) hF (lv_sub hl [2, 3, 4, 5, 1, 0] rfl)
              · rw [if_pos c45] at hF
                refine lv_iconst (v := bI true) hx hb dX4_isTaken_48 (by decide) ?_
                refine lv_goto (tgt := 53) hx hb dX4_isTaken_49 (by decide) ?_
                refine lv_istore (lv' := [(4, .int (bI true)), (0, .ref o0), (1, .int px), (2, .int py), (3, .int bt), (5, .int (nI k))]) hx hb dX4_isTaken_53 hl (by decide) rfl (fun ls hl => ?_)
                refine lv_iinc (v := nI (k + 1)) (lv' := [(5, .int (nI (k + 1))), (4, .int (bI true)), (0, .ref o0), (1, .int px), (2, .int py), (3, .int bt)]) hx hb dX4_isTaken_55 hl (k := 5) rfl (by rw [show Int32.ofInt 1 = 1 from rfl]; exact nI_1 _) (by decide) rfl (fun ls hl => ?_)
                refine lv_goto (tgt := 6) hx hb dX4_isTaken_58 (by decide) ?_
                exact ih_loop true (k + 1) R ls (by omega) (by omega) hF (lv_sub hl [2, 3, 4, 5, 1, 0] rfl)
  exact loop (n + 1) false 0 _ ls (by omega) (by omega) rfl (lv_sub hl [2, 3, 4, 5, 1, 0] rfl)
set_option maxHeartbeats 4000000 in
set_option maxRecDepth 100000 in
theorem c_X4_turn (l : Launch) (dC : Nat → ClassId) (dI : Nat → Nat → Nat) (o0 xb yb za ua wa va : Nat) (cI : ClassId) (th ns md nc hz : Int32) (x y : Nat → Int32) (a b : Nat) (px py : Int32) (la : a < 20) (lb : b < 20) : Met l yX4_turn wsX4_turn ({ frames := 0, cells := 0, slots := 0, locals := 0 }) (q_Pc (dC, dI) [.ref o0, .int (nI a), .int (nI b), .int px, .int py] [(o0, .inr (4, [.int th, .int ns, .ref xb, .ref yb, .int md, .int nc, .ref za, .ref ua, .ref wa, .int hz, .ref va])), (xb, .inl (cI, 20, .inl x)), (yb, .inl (cI, 20, .inl y))] [(cI, .int)]) (k2_QcV (.long (r_turn x y a b px py))) 0 0 (fun _ => False) := by
  refine Met.ofW (cc := cX4_turn) (maxL := 5) (ret := (some .long)) (by decide) rfl ?_
  intro p e s m args below meth c s₁ B hml hv
  obtain ⟨rfl, hP, hK⟩ := hv
  have hx := B.exec
  have hb := B.bytes
  have hr := B.returns
  have hts := atoms_spec (ws := wsX4_turn) B.pre
  have hown : s.vm.findClass RX4 = some m.cls := findClass_of_methodNamed B.named
  have hlocks := B.notSynchronized
  have hP : va_P (dC, dI) vwCl [(o0, .inr (4, [.int th, .int ns, .ref xb, .ref yb, .int md, .int nc, .ref za, .ref ua, .ref wa, .int hz, .ref va])), (xb, .inl (cI, 20, .inl x)), (yb, .inl (cI, 20, .inl y))] s.heap := hP
  have hl := lv_entry ([.ref o0, .int (nI a), .int (nI b), .int px, .int py]) (n := 5) (Nat.le_of_ble_eq_true rfl)
  rw [lg_entry_eq]
  generalize (lg_sl ([.ref o0, .int (nI a), .int (nI b), .int px, .int py]) ++ List.replicate (5 - (lg_sl ([.ref o0, .int (nI a), .int (nI b), .int px, .int py])).length) Slot.unset).toArray = ls at hl ⊢
  have hl : lv_has ls 5 [(0, .ref o0), (1, .int (nI a)), (2, .int (nI b)), (3, .int px), (4, .int py)] := hl
  refine lv_aload_n hx hb dX4_turn_0 rfl (lv_at hl 0 rfl) ?_
  refine va_get (D := (dC, dI)) (ci := 4) (v := .ref xb) (C := RX4) (T := TX4) (N := 11) hx hb hts (by decide +kernel) hown hK hP 0 rfl rfl 2 (by decide) (hts (.fieldLink RX4 7 "CircleCellsModel" "x" "[I") (by decide +kernel)) (fun _ h9 => h9) rfl dX4_turn_1 ?_
  refine lv_iload_n hx hb dX4_turn_4 rfl (lv_at hl 2 rfl) ?_
  refine q_iald hx hb hK hP 1 0 rfl rfl (b) rfl (by omega) (by decide) dX4_turn_5 ?_
  refine lv_aload_n hx hb dX4_turn_6 rfl (lv_at hl 0 rfl) ?_
  refine va_get (D := (dC, dI)) (ci := 4) (v := .ref xb) (C := RX4) (T := TX4) (N := 11) hx hb hts (by decide +kernel) hown hK hP 0 rfl rfl 2 (by decide) (hts (.fieldLink RX4 7 "CircleCellsModel" "x" "[I") (by decide +kernel)) (fun _ h9 => h9) rfl dX4_turn_7 ?_
  refine lv_iload_n hx hb dX4_turn_10 rfl (lv_at hl 1 rfl) ?_
  refine q_iald hx hb hK hP 1 0 rfl rfl (a) rfl (by omega) (by decide) dX4_turn_11 ?_
  refine lv_isub hx hb dX4_turn_12 ?_
  refine lv_i2l (v := ((x b) - (x a)).toInt64) hx hb dX4_turn_13 rfl ?_
  refine lv_iload hx hb dX4_turn_14 (lv_at hl 4 rfl) ?_
  refine lv_aload_n hx hb dX4_turn_16 rfl (lv_at hl 0 rfl) ?_
  refine va_get (D := (dC, dI)) (ci := 4) (v := .ref yb) (C := RX4) (T := TX4) (N := 11) hx hb hts (by decide +kernel) hown hK hP 0 rfl rfl 3 (by decide) (hts (.fieldLink RX4 13 "CircleCellsModel" "y" "[I") (by decide +kernel)) (fun _ h9 => h9) rfl dX4_turn_17 ?_
  refine lv_iload_n hx hb dX4_turn_20 rfl (lv_at hl 1 rfl) ?_
  refine q_iald hx hb hK hP 2 0 rfl rfl (a) rfl (by omega) (by decide) dX4_turn_21 ?_
  refine lv_isub hx hb dX4_turn_22 ?_
  refine lv_i2l (v := (py - (y a)).toInt64) hx hb dX4_turn_23 rfl ?_
  refine lv_lmul hx hb dX4_turn_24 ?_
  refine lv_aload_n hx hb dX4_turn_25 rfl (lv_at hl 0 rfl) ?_
  refine va_get (D := (dC, dI)) (ci := 4) (v := .ref yb) (C := RX4) (T := TX4) (N := 11) hx hb hts (by decide +kernel) hown hK hP 0 rfl rfl 3 (by decide) (hts (.fieldLink RX4 13 "CircleCellsModel" "y" "[I") (by decide +kernel)) (fun _ h9 => h9) rfl dX4_turn_26 ?_
  refine lv_iload_n hx hb dX4_turn_29 rfl (lv_at hl 2 rfl) ?_
  refine q_iald hx hb hK hP 2 0 rfl rfl (b) rfl (by omega) (by decide) dX4_turn_30 ?_
  refine lv_aload_n hx hb dX4_turn_31 rfl (lv_at hl 0 rfl) ?_
  refine va_get (D := (dC, dI)) (ci := 4) (v := .ref yb) (C := RX4) (T := TX4) (N := 11) hx hb hts (by decide +kernel) hown hK hP 0 rfl rfl 3 (by decide) (hts (.fieldLink RX4 13 "CircleCellsModel" "y" "[I") (by decide +kernel)) (fun _ h9 => h9) rfl dX4_turn_32 ?_
  refine lv_iload_n hx hb dX4_turn_35 rfl (lv_at hl 1 rfl) ?_
  refine q_iald hx hb hK hP 2 0 rfl rfl (a) rfl (by omega) (by decide) dX4_turn_36 ?_
  refine lv_isub hx hb dX4_turn_37 ?_
  refine lv_i2l (v := ((y b) - (y a)).toInt64) hx hb dX4_turn_38 rfl ?_
  refine lv_iload_n hx hb dX4_turn_39 rfl (lv_at hl 3 rfl) ?_
  refine lv_aload_n hx hb dX4_turn_40 rfl (lv_at hl 0 rfl) ?_
  refine va_get (D := (dC, dI)) (ci := 4) (v := .ref xb) (C := RX4) (T := TX4) (N := 11) hx hb hts (by decide +kernel) hown hK hP 0 rfl rfl 2 (by decide) (hts (.fieldLink RX4 7 "CircleCellsModel" "x" "[I") (by decide +kernel)) (fun _ h9 => h9) rfl dX4_turn_41 ?_
  refine lv_iload_n hx hb dX4_turn_44 rfl (lv_at hl 1 rfl) ?_
  refine q_iald hx hb hK hP 1 0 rfl rfl (a) rfl (by omega) (by decide) dX4_turn_45 ?_
  refine lv_isub hx hb dX4_turn_46 ?_
  refine lv_i2l (v := (px - (x a)).toInt64) hx hb dX4_turn_47 rfl ?_
  refine lv_lmul hx hb dX4_turn_48 ?_
  refine lv_lsub hx hb dX4_turn_49 ?_
  exact W.lret (v := ((((x b) - (x a)).toInt64) * ((py - (y a)).toInt64)) - ((((y b) - (y a)).toInt64) * ((px - (x a)).toInt64))) hx hb hr q_ret (fun _ h => nomatch h) dX4_turn_50
set_option maxHeartbeats 4000000 in
set_option maxRecDepth 100000 in
theorem c_X4_square (l : Launch) (dC : Nat → ClassId) (dI : Nat → Nat → Nat) (o0 xb yb za ua wa va : Nat) (cI : ClassId) (th ns md nc hz : Int32) (x y : Nat → Int32) (a b : Nat) (la : a < 20) (lb : b < 20) : Met l yX4_square wsX4_square ({ frames := 0, cells := 0, slots := 0, locals := 0 }) (q_Pc (dC, dI) [.ref o0, .int (nI a), .int (nI b)] [(o0, .inr (4, [.int th, .int ns, .ref xb, .ref yb, .int md, .int nc, .ref za, .ref ua, .ref wa, .int hz, .ref va])), (xb, .inl (cI, 20, .inl x)), (yb, .inl (cI, 20, .inl y))] [(cI, .int)]) (k2_QcV (.long (r_sq x y a b))) 0 0 (fun _ => False) := by
  refine Met.ofW (cc := cX4_square) (maxL := 3) (ret := (some .long)) (by decide) rfl ?_
  intro p e s m args below meth c s₁ B hml hv
  obtain ⟨rfl, hP, hK⟩ := hv
  have hx := B.exec
  have hb := B.bytes
  have hr := B.returns
  have hts := atoms_spec (ws := wsX4_square) B.pre
  have hown : s.vm.findClass RX4 = some m.cls := findClass_of_methodNamed B.named
  have hlocks := B.notSynchronized
  have hP : va_P (dC, dI) vwCl [(o0, .inr (4, [.int th, .int ns, .ref xb, .ref yb, .int md, .int nc, .ref za, .ref ua, .ref wa, .int hz, .ref va])), (xb, .inl (cI, 20, .inl x)), (yb, .inl (cI, 20, .inl y))] s.heap := hP
  have hl := lv_entry ([.ref o0, .int (nI a), .int (nI b)]) (n := 3) (Nat.le_of_ble_eq_true rfl)
  rw [lg_entry_eq]
  generalize (lg_sl ([.ref o0, .int (nI a), .int (nI b)]) ++ List.replicate (3 - (lg_sl ([.ref o0, .int (nI a), .int (nI b)])).length) Slot.unset).toArray = ls at hl ⊢
  have hl : lv_has ls 3 [(0, .ref o0), (1, .int (nI a)), (2, .int (nI b))] := hl
  refine lv_aload_n hx hb dX4_square_0 rfl (lv_at hl 0 rfl) ?_
  refine va_get (D := (dC, dI)) (ci := 4) (v := .ref xb) (C := RX4) (T := TX4) (N := 11) hx hb hts (by decide +kernel) hown hK hP 0 rfl rfl 2 (by decide) (hts (.fieldLink RX4 7 "CircleCellsModel" "x" "[I") (by decide +kernel)) (fun _ h9 => h9) rfl dX4_square_1 ?_
  refine lv_iload_n hx hb dX4_square_4 rfl (lv_at hl 1 rfl) ?_
  refine q_iald hx hb hK hP 1 0 rfl rfl (a) rfl (by omega) (by decide) dX4_square_5 ?_
  refine lv_aload_n hx hb dX4_square_6 rfl (lv_at hl 0 rfl) ?_
  refine va_get (D := (dC, dI)) (ci := 4) (v := .ref xb) (C := RX4) (T := TX4) (N := 11) hx hb hts (by decide +kernel) hown hK hP 0 rfl rfl 2 (by decide) (hts (.fieldLink RX4 7 "CircleCellsModel" "x" "[I") (by decide +kernel)) (fun _ h9 => h9) rfl dX4_square_7 ?_
  refine lv_iload_n hx hb dX4_square_10 rfl (lv_at hl 2 rfl) ?_
  refine q_iald hx hb hK hP 1 0 rfl rfl (b) rfl (by omega) (by decide) dX4_square_11 ?_
  refine lv_isub hx hb dX4_square_12 ?_
  refine lv_i2l (v := ((x a) - (x b)).toInt64) hx hb dX4_square_13 rfl ?_
  refine lv_aload_n hx hb dX4_square_14 rfl (lv_at hl 0 rfl) ?_
  refine va_get (D := (dC, dI)) (ci := 4) (v := .ref xb) (C := RX4) (T := TX4) (N := 11) hx hb hts (by decide +kernel) hown hK hP 0 rfl rfl 2 (by decide) (hts (.fieldLink RX4 7 "CircleCellsModel" "x" "[I") (by decide +kernel)) (fun _ h9 => h9) rfl dX4_square_15 ?_
  refine lv_iload_n hx hb dX4_square_18 rfl (lv_at hl 1 rfl) ?_
  refine q_iald hx hb hK hP 1 0 rfl rfl (a) rfl (by omega) (by decide) dX4_square_19 ?_
  refine lv_aload_n hx hb dX4_square_20 rfl (lv_at hl 0 rfl) ?_
  refine va_get (D := (dC, dI)) (ci := 4) (v := .ref xb) (C := RX4) (T := TX4) (N := 11) hx hb hts (by decide +kernel) hown hK hP 0 rfl rfl 2 (by decide) (hts (.fieldLink RX4 7 "CircleCellsModel" "x" "[I") (by decide +kernel)) (fun _ h9 => h9) rfl dX4_square_21 ?_
  refine lv_iload_n hx hb dX4_square_24 rfl (lv_at hl 2 rfl) ?_
  refine q_iald hx hb hK hP 1 0 rfl rfl (b) rfl (by omega) (by decide) dX4_square_25 ?_
  refine lv_isub hx hb dX4_square_26 ?_
  refine lv_i2l (v := ((x a) - (x b)).toInt64) hx hb dX4_square_27 rfl ?_
  refine lv_lmul hx hb dX4_square_28 ?_
  refine lv_aload_n hx hb dX4_square_29 rfl (lv_at hl 0 rfl) ?_
  refine va_get (D := (dC, dI)) (ci := 4) (v := .ref yb) (C := RX4) (T := TX4) (N := 11) hx hb hts (by decide +kernel) hown hK hP 0 rfl rfl 3 (by decide) (hts (.fieldLink RX4 13 "CircleCellsModel" "y" "[I") (by decide +kernel)) (fun _ h9 => h9) rfl dX4_square_30 ?_
  refine lv_iload_n hx hb dX4_square_33 rfl (lv_at hl 1 rfl) ?_
  refine q_iald hx hb hK hP 2 0 rfl rfl (a) rfl (by omega) (by decide) dX4_square_34 ?_
  refine lv_aload_n hx hb dX4_square_35 rfl (lv_at hl 0 rfl) ?_
  refine va_get (D := (dC, dI)) (ci := 4) (v := .ref yb) (C := RX4) (T := TX4) (N := 11) hx hb hts (by decide +kernel) hown hK hP 0 rfl rfl 3 (by decide) (hts (.fieldLink RX4 13 "CircleCellsModel" "y" "[I") (by decide +kernel)) (fun _ h9 => h9) rfl dX4_square_36 ?_
  refine lv_iload_n hx hb dX4_square_39 rfl (lv_at hl 2 rfl) ?_
  refine q_iald hx hb hK hP 2 0 rfl rfl (b) rfl (by omega) (by decide) dX4_square_40 ?_
  refine lv_isub hx hb dX4_square_41 ?_
  refine lv_i2l (v := ((y a) - (y b)).toInt64) hx hb dX4_square_42 rfl ?_
  refine lv_aload_n hx hb dX4_square_43 rfl (lv_at hl 0 rfl) ?_
  refine va_get (D := (dC, dI)) (ci := 4) (v := .ref yb) (C := RX4) (T := TX4) (N := 11) hx hb hts (by decide +kernel) hown hK hP 0 rfl rfl 3 (by decide) (hts (.fieldLink RX4 13 "CircleCellsModel" "y" "[I") (by decide +kernel)) (fun _ h9 => h9) rfl dX4_square_44 ?_
  refine lv_iload_n hx hb dX4_square_47 rfl (lv_at hl 1 rfl) ?_
  refine q_iald hx hb hK hP 2 0 rfl rfl (a) rfl (by omega) (by decide) dX4_square_48 ?_
  refine lv_aload_n hx hb dX4_square_49 rfl (lv_at hl 0 rfl) ?_
  refine va_get (D := (dC, dI)) (ci := 4) (v := .ref yb) (C := RX4) (T := TX4) (N := 11) hx hb hts (by decide +kernel) hown hK hP 0 rfl rfl 3 (by decide) (hts (.fieldLink RX4 13 "CircleCellsModel" "y" "[I") (by decide +kernel)) (fun _ h9 => h9) rfl dX4_square_50 ?_
  refine lv_iload_n hx hb dX4_square_53 rfl (lv_at hl 2 rfl) ?_
  refine q_iald hx hb hK hP 2 0 rfl rfl (b) rfl (by omega) (by decide) dX4_square_54 ?_
  refine lv_isub hx hb dX4_square_55 ?_
  refine lv_i2l (v := ((y a) - (y b)).toInt64) hx hb dX4_square_56 rfl ?_
  refine lv_lmul hx hb dX4_square_57 ?_
  refine lv_ladd hx hb dX4_square_58 ?_
  exact W.lret (v := ((((x a) - (x b)).toInt64) * (((x a) - (x b)).toInt64)) + ((((y a) - (y b)).toInt64) * (((y a) - (y b)).toInt64))) hx hb hr q_ret (fun _ h => nomatch h) dX4_square_59
set_option maxHeartbeats 4000000 in
set_option maxRecDepth 100000 in
theorem c_X4_power (l : Launch) (dC : Nat → ClassId) (dI : Nat → Nat → Nat) (o0 xb yb za ua wa va : Nat) (cI : ClassId) (th ns md nc hz : Int32) (x y : Nat → Int32) (a b d k : Nat) (la : a < 20) (lb : b < 20) (ld : d < 20) (lk : k < 20) : Met l yX4_power wsX4_power ({ frames := 1, cells := 0, slots := 0, locals := 22 }) (q_Pc (dC, dI) [.ref o0, .int (nI a), .int (nI b), .int (nI d), .int (nI k)] [(o0, .inr (4, [.int th, .int ns, .ref xb, .ref yb, .int md, .int nc, .ref za, .ref ua, .ref wa, .int hz, .ref va])), (xb, .inl (cI, 20, .inl x)), (yb, .inl (cI, 20, .inl y))] [(cI, .int)]) (k2_QcV (.long (r_pow x y a b d k))) 0 0 (fun _ => False) := by
  refine Met.ofW (cc := cX4_power) (maxL := 21) (ret := (some .long)) (by decide) rfl ?_
  intro p e s m args below meth c s₁ B hml hv
  obtain ⟨rfl, hP, hK⟩ := hv
  have hx := B.exec
  have hb := B.bytes
  have hr := B.returns
  have hts := atoms_spec (ws := wsX4_power) B.pre
  have hown : s.vm.findClass RX4 = some m.cls := findClass_of_methodNamed B.named
  have hlocks := B.notSynchronized
  have hP : va_P (dC, dI) vwCl [(o0, .inr (4, [.int th, .int ns, .ref xb, .ref yb, .int md, .int nc, .ref za, .ref ua, .ref wa, .int hz, .ref va])), (xb, .inl (cI, 20, .inl x)), (yb, .inl (cI, 20, .inl y))] s.heap := hP
  have hl := lv_entry ([.ref o0, .int (nI a), .int (nI b), .int (nI d), .int (nI k)]) (n := 21) (Nat.le_of_ble_eq_true rfl)
  rw [lg_entry_eq]
  generalize (lg_sl ([.ref o0, .int (nI a), .int (nI b), .int (nI d), .int (nI k)]) ++ List.replicate (21 - (lg_sl ([.ref o0, .int (nI a), .int (nI b), .int (nI d), .int (nI k)])).length) Slot.unset).toArray = ls at hl ⊢
  have hl : lv_has ls 21 [(0, .ref o0), (1, .int (nI a)), (2, .int (nI b)), (3, .int (nI d)), (4, .int (nI k))] := hl
  refine lv_aload_n hx hb dX4_power_0 rfl (lv_at hl 0 rfl) ?_
  refine va_get (D := (dC, dI)) (ci := 4) (v := .ref xb) (C := RX4) (T := TX4) (N := 11) hx hb hts (by decide +kernel) hown hK hP 0 rfl rfl 2 (by decide) (hts (.fieldLink RX4 7 "CircleCellsModel" "x" "[I") (by decide +kernel)) (fun _ h9 => h9) rfl dX4_power_1 ?_
  refine lv_iload_n hx hb dX4_power_4 rfl (lv_at hl 2 rfl) ?_
  refine q_iald hx hb hK hP 1 0 rfl rfl (b) rfl (by omega) (by decide) dX4_power_5 ?_
  refine lv_aload_n hx hb dX4_power_6 rfl (lv_at hl 0 rfl) ?_
  refine va_get (D := (dC, dI)) (ci := 4) (v := .ref xb) (C := RX4) (T := TX4) (N := 11) hx hb hts (by decide +kernel) hown hK hP 0 rfl rfl 2 (by decide) (hts (.fieldLink RX4 7 "CircleCellsModel" "x" "[I") (by decide +kernel)) (fun _ h9 => h9) rfl dX4_power_7 ?_
  refine lv_iload_n hx hb dX4_power_10 rfl (lv_at hl 1 rfl) ?_
  refine q_iald hx hb hK hP 1 0 rfl rfl (a) rfl (by omega) (by decide) dX4_power_11 ?_
  refine lv_isub hx hb dX4_power_12 ?_
  refine lv_i2l (v := ((x b) - (x a)).toInt64) hx hb dX4_power_13 rfl ?_
  refine lv_lstore (lv' := [(5, .long (((x b) - (x a)).toInt64)), (0, .ref o0), (1, .int (nI a)), (2, .int (nI b)), (3, .int (nI d)), (4, .int (nI k))]) hx hb dX4_power_14 hl (by decide) rfl (fun ls hl => ?_)
  refine lv_aload_n hx hb dX4_power_16 rfl (lv_at hl 1 rfl) ?_
  refine va_get (D := (dC, dI)) (ci := 4) (v := .ref yb) (C := RX4) (T := TX4) (N := 11) hx hb hts (by decide +kernel) hown hK hP 0 rfl rfl 3 (by decide) (hts (.fieldLink RX4 13 "CircleCellsModel" "y" "[I") (by decide +kernel)) (fun _ h9 => h9) rfl dX4_power_17 ?_
  refine lv_iload_n hx hb dX4_power_20 rfl (lv_at hl 3 rfl) ?_
  refine q_iald hx hb hK hP 2 0 rfl rfl (b) rfl (by omega) (by decide) dX4_power_21 ?_
  refine lv_aload_n hx hb dX4_power_22 rfl (lv_at hl 1 rfl) ?_
  refine va_get (D := (dC, dI)) (ci := 4) (v := .ref yb) (C := RX4) (T := TX4) (N := 11) hx hb hts (by decide +kernel) hown hK hP 0 rfl rfl 3 (by decide) (hts (.fieldLink RX4 13 "CircleCellsModel" "y" "[I") (by decide +kernel)) (fun _ h9 => h9) rfl dX4_power_23 ?_
  refine lv_iload_n hx hb dX4_power_26 rfl (lv_at hl 2 rfl) ?_
  refine q_iald hx hb hK hP 2 0 rfl rfl (a) rfl (by omega) (by decide) dX4_power_27 ?_
  refine lv_isub hx hb dX4_power_28 ?_
  refine lv_i2l (v := ((y b) - (y a)).toInt64) hx hb dX4_power_29 rfl ?_
  refine lv_lstore (lv' := [(7, .long (((y b) - (y a)).toInt64)), (5, .long (((x b) - (x a)).toInt64)), (0, .ref o0), (1, .int (nI a)), (2, .int (nI b)), (3, .int (nI d)), (4, .int (nI k))]) hx hb dX4_power_30 hl (by decide) rfl (fun ls hl => ?_)
  refine lv_aload_n hx hb dX4_power_32 rfl (lv_at hl 2 rfl) ?_
  refine va_get (D := (dC, dI)) (ci := 4) (v := .ref xb) (C := RX4) (T := TX4) (N := 11) hx hb hts (by decide +kernel) hown hK hP 0 rfl rfl 2 (by decide) (hts (.fieldLink RX4 7 "CircleCellsModel" "x" "[I") (by decide +kernel)) (fun _ h9 => h9) rfl dX4_power_33 ?_
  refine lv_iload_n hx hb dX4_power_36 rfl (lv_at hl 5 rfl) ?_
  refine q_iald hx hb hK hP 1 0 rfl rfl (d) rfl (by omega) (by decide) dX4_power_37 ?_
  refine lv_aload_n hx hb dX4_power_38 rfl (lv_at hl 2 rfl) ?_
  refine va_get (D := (dC, dI)) (ci := 4) (v := .ref xb) (C := RX4) (T := TX4) (N := 11) hx hb hts (by decide +kernel) hown hK hP 0 rfl rfl 2 (by decide) (hts (.fieldLink RX4 7 "CircleCellsModel" "x" "[I") (by decide +kernel)) (fun _ h9 => h9) rfl dX4_power_39 ?_
  refine lv_iload_n hx hb dX4_power_42 rfl (lv_at hl 3 rfl) ?_
  refine q_iald hx hb hK hP 1 0 rfl rfl (a) rfl (by omega) (by decide) dX4_power_43 ?_
  refine lv_isub hx hb dX4_power_44 ?_
  refine lv_i2l (v := ((x d) - (x a)).toInt64) hx hb dX4_power_45 rfl ?_
  refine lv_lstore (lv' := [(9, .long (((x d) - (x a)).toInt64)), (7, .long (((y b) - (y a)).toInt64)), (5, .long (((x b) - (x a)).toInt64)), (0, .ref o0), (1, .int (nI a)), (2, .int (nI b)), (3, .int (nI d)), (4, .int (nI k))]) hx hb dX4_power_46 hl (by decide) rfl (fun ls hl => ?_)
  refine lv_aload_n hx hb dX4_power_48 rfl (lv_at hl 3 rfl) ?_
  refine va_get (D := (dC, dI)) (ci := 4) (v := .ref yb) (C := RX4) (T := TX4) (N := 11) hx hb hts (by decide +kernel) hown hK hP 0 rfl rfl 3 (by decide) (hts (.fieldLink RX4 13 "CircleCellsModel" "y" "[I") (by decide +kernel)) (fun _ h9 => h9) rfl dX4_power_49 ?_
  refine lv_iload_n hx hb dX4_power_52 rfl (lv_at hl 6 rfl) ?_
  refine q_iald hx hb hK hP 2 0 rfl rfl (d) rfl (by omega) (by decide) dX4_power_53 ?_
  refine lv_aload_n hx hb dX4_power_54 rfl (lv_at hl 3 rfl) ?_
  refine va_get (D := (dC, dI)) (ci := 4) (v := .ref yb) (C := RX4) (T := TX4) (N := 11) hx hb hts (by decide +kernel) hown hK hP 0 rfl rfl 3 (by decide) (hts (.fieldLink RX4 13 "CircleCellsModel" "y" "[I") (by decide +kernel)) (fun _ h9 => h9) rfl dX4_power_55 ?_
  refine lv_iload_n hx hb dX4_power_58 rfl (lv_at hl 4 rfl) ?_
  refine q_iald hx hb hK hP 2 0 rfl rfl (a) rfl (by omega) (by decide) dX4_power_59 ?_
  refine lv_isub hx hb dX4_power_60 ?_
  refine lv_i2l (v := ((y d) - (y a)).toInt64) hx hb dX4_power_61 rfl ?_
  refine lv_lstore (lv' := [(11, .long (((y d) - (y a)).toInt64)), (9, .long (((x d) - (x a)).toInt64)), (7, .long (((y b) - (y a)).toInt64)), (5, .long (((x b) - (x a)).toInt64)), (0, .ref o0), (1, .int (nI a)), (2, .int (nI b)), (3, .int (nI d)), (4, .int (nI k))]) hx hb dX4_power_62 hl (by decide) rfl (fun ls hl => ?_)
  refine lv_lload hx hb dX4_power_64 (lv_at hl 3 rfl) ?_
  refine lv_lload hx hb dX4_power_66 (lv_at hl 0 rfl) ?_
  refine lv_lmul hx hb dX4_power_68 ?_
  refine lv_lload hx hb dX4_power_69 (lv_at hl 2 rfl) ?_
  refine lv_lload hx hb dX4_power_71 (lv_at hl 1 rfl) ?_
  refine lv_lmul hx hb dX4_power_73 ?_
  refine lv_lsub hx hb dX4_power_74 ?_
  refine lv_lstore (lv' := [(13, .long (((((x b) - (x a)).toInt64) * (((y d) - (y a)).toInt64)) - ((((y b) - (y a)).toInt64) * (((x d) - (x a)).toInt64)))), (11, .long (((y d) - (y a)).toInt64)), (9, .long (((x d) - (x a)).toInt64)), (7, .long (((y b) - (y a)).toInt64)), (5, .long (((x b) - (x a)).toInt64)), (0, .ref o0), (1, .int (nI a)), (2, .int (nI b)), (3, .int (nI d)), (4, .int (nI k))]) hx hb dX4_power_75 hl (by decide) rfl (fun ls hl => ?_)
  refine lv_aload_n hx hb dX4_power_77 rfl (lv_at hl 5 rfl) ?_
  refine lv_iload_n hx hb dX4_power_78 rfl (lv_at hl 6 rfl) ?_
  refine lv_iload_n hx hb dX4_power_79 rfl (lv_at hl 7 rfl) ?_
  refine q_cV (As := [.int (nI a), .int (nI b)]) (rest := []) ⟨hx, hb, hml, hown, hts⟩ (c_X4_square l dC dI o0 xb yb za ua wa va cI th ns md nc hz x y a b (by omega) (by omega)) (cwV 2 hts gX4_power_X4_square rfl rfl rfl (by decide +kernel) ⟨Nat.le_of_ble_eq_true rfl, Nat.le_of_ble_eq_true rfl⟩) (q_pV hK hP [0, 1, 2] [0] 4 0 rfl rfl rfl rfl rfl rfl) rfl hl.1 rfl (Nat.le_of_ble_eq_true rfl) ⟨Nat.zero_le _, Nat.zero_le _⟩ dX4_power_80 ?_
  refine lv_lload hx hb dX4_power_83 (lv_at hl 1 rfl) ?_
  refine lv_lmul hx hb dX4_power_85 ?_
  refine lv_aload_n hx hb dX4_power_86 rfl (lv_at hl 5 rfl) ?_
  refine lv_iload_n hx hb dX4_power_87 rfl (lv_at hl 6 rfl) ?_
  refine lv_iload_n hx hb dX4_power_88 rfl (lv_at hl 8 rfl) ?_
  refine q_cV (As := [.int (nI a), .int (nI d)]) (rest := [.long ((r_sq x y a b) * (((y d) - (y a)).toInt64))]) ⟨hx, hb, hml, hown, hts⟩ (c_X4_square l dC dI o0 xb yb za ua wa va cI th ns md nc hz x y a d (by omega) (by omega)) (cwV 2 hts gX4_power_X4_square rfl rfl rfl (by decide +kernel) ⟨Nat.le_of_ble_eq_true rfl, Nat.le_of_ble_eq_true rfl⟩) (q_pV hK hP [0, 1, 2] [0] 4 0 rfl rfl rfl rfl rfl rfl) rfl hl.1 rfl (Nat.le_of_ble_eq_true rfl) ⟨Nat.zero_le _, Nat.zero_le _⟩ dX4_power_89 ?_
  refine lv_lload hx hb dX4_power_92 (lv_at hl 3 rfl) ?_
  refine lv_lmul hx hb dX4_power_94 ?_
  refine lv_lsub hx hb dX4_power_95 ?_
  refine lv_lstore (lv' := [(15, .long (((r_sq x y a b) * (((y d) - (y a)).toInt64)) - ((r_sq x y a d) * (((y b) - (y a)).toInt64)))), (13, .long (((((x b) - (x a)).toInt64) * (((y d) - (y a)).toInt64)) - ((((y b) - (y a)).toInt64) * (((x d) - (x a)).toInt64)))), (11, .long (((y d) - (y a)).toInt64)), (9, .long (((x d) - (x a)).toInt64)), (7, .long (((y b) - (y a)).toInt64)), (5, .long (((x b) - (x a)).toInt64)), (0, .ref o0), (1, .int (nI a)), (2, .int (nI b)), (3, .int (nI d)), (4, .int (nI k))]) hx hb dX4_power_96 hl (by decide) rfl (fun ls hl => ?_)
  refine lv_aload_n hx hb dX4_power_98 rfl (lv_at hl 6 rfl) ?_
  refine lv_iload_n hx hb dX4_power_99 rfl (lv_at hl 7 rfl) ?_
  refine lv_iload_n hx hb dX4_power_100 rfl (lv_at hl 9 rfl) ?_
  refine q_cV (As := [.int (nI a), .int (nI d)]) (rest := []) ⟨hx, hb, hml, hown, hts⟩ (c_X4_square l dC dI o0 xb yb za ua wa va cI th ns md nc hz x y a d (by omega) (by omega)) (cwV 2 hts gX4_power_X4_square rfl rfl rfl (by decide +kernel) ⟨Nat.le_of_ble_eq_true rfl, Nat.le_of_ble_eq_true rfl⟩) (q_pV hK hP [0, 1, 2] [0] 4 0 rfl rfl rfl rfl rfl rfl) rfl hl.1 rfl (Nat.le_of_ble_eq_true rfl) ⟨Nat.zero_le _, Nat.zero_le _⟩ dX4_power_101 ?_
  refine lv_lload hx hb dX4_power_104 (lv_at hl 5 rfl) ?_
  refine lv_lmul hx hb dX4_power_106 ?_
  refine lv_aload_n hx hb dX4_power_107 rfl (lv_at hl 6 rfl) ?_
  refine lv_iload_n hx hb dX4_power_108 rfl (lv_at hl 7 rfl) ?_
  refine lv_iload_n hx hb dX4_power_109 rfl (lv_at hl 8 rfl) ?_
  refine q_cV (As := [.int (nI a), .int (nI b)]) (rest := [.long ((r_sq x y a d) * (((x b) - (x a)).toInt64))]) ⟨hx, hb, hml, hown, hts⟩ (c_X4_square l dC dI o0 xb yb za ua wa va cI th ns md nc hz x y a b (by omega) (by omega)) (cwV 2 hts gX4_power_X4_square rfl rfl rfl (by decide +kernel) ⟨Nat.le_of_ble_eq_true rfl, Nat.le_of_ble_eq_true rfl⟩) (q_pV hK hP [0, 1, 2] [0] 4 0 rfl rfl rfl rfl rfl rfl) rfl hl.1 rfl (Nat.le_of_ble_eq_true rfl) ⟨Nat.zero_le _, Nat.zero_le _⟩ dX4_power_110 ?_
  refine lv_lload hx hb dX4_power_113 (lv_at hl 3 rfl) ?_
  refine lv_lmul hx hb dX4_power_115 ?_
  refine lv_lsub hx hb dX4_power_116 ?_
  refine lv_lstore (lv' := [(17, .long (((r_sq x y a d) * (((x b) - (x a)).toInt64)) - ((r_sq x y a b) * (((x d) - (x a)).toInt64)))), (15, .long (((r_sq x y a b) * (((y d) - (y a)).toInt64)) - ((r_sq x y a d) * (((y b) - (y a)).toInt64)))), (13, .long (((((x b) - (x a)).toInt64) * (((y d) - (y a)).toInt64)) - ((((y b) - (y a)).toInt64) * (((x d) - (x a)).toInt64)))), (11, .long (((y d) - (y a)).toInt64)), (9, .long (((x d) - (x a)).toInt64)), (7, .long (((y b) - (y a)).toInt64)), (5, .long (((x b) - (x a)).toInt64)), (0, .ref o0), (1, .int (nI a)), (2, .int (nI b)), (3, .int (nI d)), (4, .int (nI k))]) hx hb dX4_power_117 hl (by decide) rfl (fun ls hl => ?_)
  refine lv_lload hx hb dX4_power_119 (lv_at hl 1 rfl) ?_
  refine lv_aload_n hx hb dX4_power_121 rfl (lv_at hl 7 rfl) ?_
  refine va_get (D := (dC, dI)) (ci := 4) (v := .ref xb) (C := RX4) (T := TX4) (N := 11) hx hb hts (by decide +kernel) hown hK hP 0 rfl rfl 2 (by decide) (hts (.fieldLink RX4 7 "CircleCellsModel" "x" "[I") (by decide +kernel)) (fun _ h9 => h9) rfl dX4_power_122 ?_
  refine lv_iload hx hb dX4_power_125 (lv_at hl 11 rfl) ?_
  refine q_iald hx hb hK hP 1 0 rfl rfl (k) rfl (by omega) (by decide) dX4_power_127 ?_
  refine lv_aload_n hx hb dX4_power_128 rfl (lv_at hl 7 rfl) ?_
  refine va_get (D := (dC, dI)) (ci := 4) (v := .ref xb) (C := RX4) (T := TX4) (N := 11) hx hb hts (by decide +kernel) hown hK hP 0 rfl rfl 2 (by decide) (hts (.fieldLink RX4 7 "CircleCellsModel" "x" "[I") (by decide +kernel)) (fun _ h9 => h9) rfl dX4_power_129 ?_
  refine lv_iload_n hx hb dX4_power_132 rfl (lv_at hl 8 rfl) ?_
  refine q_iald hx hb hK hP 1 0 rfl rfl (a) rfl (by omega) (by decide) dX4_power_133 ?_
  refine lv_isub hx hb dX4_power_134 ?_
  refine lv_i2l (v := ((x k) - (x a)).toInt64) hx hb dX4_power_135 rfl ?_
  refine lv_lmul hx hb dX4_power_136 ?_
  refine lv_lload hx hb dX4_power_137 (lv_at hl 0 rfl) ?_
  refine lv_aload_n hx hb dX4_power_139 rfl (lv_at hl 7 rfl) ?_
  refine va_get (D := (dC, dI)) (ci := 4) (v := .ref yb) (C := RX4) (T := TX4) (N := 11) hx hb hts (by decide +kernel) hown hK hP 0 rfl rfl 3 (by decide) (hts (.fieldLink RX4 13 "CircleCellsModel" "y" "[I") (by decide +kernel)) (fun _ h9 => h9) rfl dX4_power_140 ?_
  refine lv_iload hx hb dX4_power_143 (lv_at hl 11 rfl) ?_
  refine q_iald hx hb hK hP 2 0 rfl rfl (k) rfl (by omega) (by decide) dX4_power_145 ?_
  refine lv_aload_n hx hb dX4_power_146 rfl (lv_at hl 7 rfl) ?_
  refine va_get (D := (dC, dI)) (ci := 4) (v := .ref yb) (C := RX4) (T := TX4) (N := 11) hx hb hts (by decide +kernel) hown hK hP 0 rfl rfl 3 (by decide) (hts (.fieldLink RX4 13 "CircleCellsModel" "y" "[I") (by decide +kernel)) (fun _ h9 => h9) rfl dX4_power_147 ?_
  refine lv_iload_n hx hb dX4_power_150 rfl (lv_at hl 8 rfl) ?_
  refine q_iald hx hb hK hP 2 0 rfl rfl (a) rfl (by omega) (by decide) dX4_power_151 ?_
  refine lv_isub hx hb dX4_power_152 ?_
  refine lv_i2l (v := ((y k) - (y a)).toInt64) hx hb dX4_power_153 rfl ?_
  refine lv_lmul hx hb dX4_power_154 ?_
  refine lv_ladd hx hb dX4_power_155 ?_
  refine lv_lload hx hb dX4_power_156 (lv_at hl 2 rfl) ?_
  refine lv_aload_n hx hb dX4_power_158 rfl (lv_at hl 7 rfl) ?_
  refine lv_iload_n hx hb dX4_power_159 rfl (lv_at hl 8 rfl) ?_
  refine lv_iload hx hb dX4_power_160 (lv_at hl 11 rfl) ?_
  refine q_cV (As := [.int (nI a), .int (nI k)]) (rest := [.long (((((x b) - (x a)).toInt64) * (((y d) - (y a)).toInt64)) - ((((y b) - (y a)).toInt64) * (((x d) - (x a)).toInt64))), .long (((((r_sq x y a b) * (((y d) - (y a)).toInt64)) - ((r_sq x y a d) * (((y b) - (y a)).toInt64))) * (((x k) - (x a)).toInt64)) + ((((r_sq x y a d) * (((x b) - (x a)).toInt64)) - ((r_sq x y a b) * (((x d) - (x a)).toInt64))) * (((y k) - (y a)).toInt64)))]) ⟨hx, hb, hml, hown, hts⟩ (c_X4_square l dC dI o0 xb yb za ua wa va cI th ns md nc hz x y a k (by omega) (by omega)) (cwV 2 hts gX4_power_X4_square rfl rfl rfl (by decide +kernel) ⟨Nat.le_of_ble_eq_true rfl, Nat.le_of_ble_eq_true rfl⟩) (q_pV hK hP [0, 1, 2] [0] 4 0 rfl rfl rfl rfl rfl rfl) rfl hl.1 rfl (Nat.le_of_ble_eq_true rfl) ⟨Nat.zero_le _, Nat.zero_le _⟩ dX4_power_162 ?_
  refine lv_lmul hx hb dX4_power_165 ?_
  refine lv_lsub hx hb dX4_power_166 ?_
  refine lv_lstore (lv' := [(19, .long ((((((r_sq x y a b) * (((y d) - (y a)).toInt64)) - ((r_sq x y a d) * (((y b) - (y a)).toInt64))) * (((x k) - (x a)).toInt64)) + ((((r_sq x y a d) * (((x b) - (x a)).toInt64)) - ((r_sq x y a b) * (((x d) - (x a)).toInt64))) * (((y k) - (y a)).toInt64))) - ((((((x b) - (x a)).toInt64) * (((y d) - (y a)).toInt64)) - ((((y b) - (y a)).toInt64) * (((x d) - (x a)).toInt64))) * (r_sq x y a k)))), (17, .long (((r_sq x y a d) * (((x b) - (x a)).toInt64)) - ((r_sq x y a b) * (((x d) - (x a)).toInt64)))), (15, .long (((r_sq x y a b) * (((y d) - (y a)).toInt64)) - ((r_sq x y a d) * (((y b) - (y a)).toInt64)))), (13, .long (((((x b) - (x a)).toInt64) * (((y d) - (y a)).toInt64)) - ((((y b) - (y a)).toInt64) * (((x d) - (x a)).toInt64)))), (11, .long (((y d) - (y a)).toInt64)), (9, .long (((x d) - (x a)).toInt64)), (7, .long (((y b) - (y a)).toInt64)), (5, .long (((x b) - (x a)).toInt64)), (0, .ref o0), (1, .int (nI a)), (2, .int (nI b)), (3, .int (nI d)), (4, .int (nI k))]) hx hb dX4_power_167 hl (by decide) rfl (fun ls hl => ?_)
  refine lv_lload hx hb dX4_power_169 (lv_at hl 3 rfl) ?_
  refine lv_lconst (v := 0) hx hb dX4_power_171 (by decide) ?_
  refine q_lcmp_le (tgt := 181) hx hb dX4_power_172 dX4_power_173 (by decide) (fun c173 => ?_) (fun c173 => ?_)
  · rw [r_pow, if_pos (show r_ar x y a b d ≤ 0 from c173)]
    refine lv_lload hx hb dX4_power_181 (lv_at hl 0 rfl) ?_
    refine lv_lneg hx hb dX4_power_183 ?_
    exact W.lret (v := -((((((r_sq x y a b) * (((y d) - (y a)).toInt64)) - ((r_sq x y a d) * (((y b) - (y a)).toInt64))) * (((x k) - (x a)).toInt64)) + ((((r_sq x y a d) * (((x b) - (x a)).toInt64)) - ((r_sq x y a b) * (((x d) - (x a)).toInt64))) * (((y k) - (y a)).toInt64))) - ((((((x b) - (x a)).toInt64) * (((y d) - (y a)).toInt64)) - ((((y b) - (y a)).toInt64) * (((x d) - (x a)).toInt64))) * (r_sq x y a k)))) hx hb hr q_ret (fun _ h => nomatch h) dX4_power_184
  · rw [r_pow, if_neg (show ¬ r_ar x y a b d ≤ 0 from c173)]
    refine lv_lload hx hb dX4_power_176 (lv_at hl 0 rfl) ?_
    refine lv_goto (tgt := 184) hx hb dX4_power_178 (by decide) ?_
    exact W.lret (v := (((((r_sq x y a b) * (((y d) - (y a)).toInt64)) - ((r_sq x y a d) * (((y b) - (y a)).toInt64))) * (((x k) - (x a)).toInt64)) + ((((r_sq x y a d) * (((x b) - (x a)).toInt64)) - ((r_sq x y a b) * (((x d) - (x a)).toInt64))) * (((y k) - (y a)).toInt64))) - ((((((x b) - (x a)).toInt64) * (((y d) - (y a)).toInt64)) - ((((y b) - (y a)).toInt64) * (((x d) - (x a)).toInt64))) * (r_sq x y a k))) hx hb hr q_ret (fun _ h => nomatch h) dX4_power_184
set_option maxHeartbeats 4000000 in
set_option maxRecDepth 100000 in
theorem c_X4_onCircle (l : Launch) (dC : Nat → ClassId) (dI : Nat → Nat → Nat) (o0 xb yb za ua wa va : Nat) (cI : ClassId) (th md nc hz : Int32) (x y : Nat → Int32) (n a b d : Nat) (ln : n ≤ 20) (la : a < n) (lb : b < n) (ld : d < n) : Met l yX4_onCircle wsX4_onCircle ({ frames := 2, cells := 0, slots := 0, locals := 62 }) (q_Pc (dC, dI) [.ref o0, .int (nI a), .int (nI b), .int (nI d)] [(o0, .inr (4, [.int th, .int (nI n), .ref xb, .ref yb, .int md, .int nc, .ref za, .ref ua, .ref wa, .int hz, .ref va])), (xb, .inl (cI, 20, .inl x)), (yb, .inl (cI, 20, .inl y))] [(cI, .int)]) (k2_QcV (.int (r_on x y n a b d 0 0))) 0 0 (fun _ => False) := by
  refine Met.ofW (cc := cX4_onCircle) (maxL := 8) (ret := (some .int)) (by decide) rfl ?_
  intro p e s m args below meth c s₁ B hml hv
  obtain ⟨rfl, hP, hK⟩ := hv
  have hx := B.exec
  have hb := B.bytes
  have hr := B.returns
  have hts := atoms_spec (ws := wsX4_onCircle) B.pre
  have hown : s.vm.findClass RX4 = some m.cls := findClass_of_methodNamed B.named
  have hlocks := B.notSynchronized
  have hP : va_P (dC, dI) vwCl [(o0, .inr (4, [.int th, .int (nI n), .ref xb, .ref yb, .int md, .int nc, .ref za, .ref ua, .ref wa, .int hz, .ref va])), (xb, .inl (cI, 20, .inl x)), (yb, .inl (cI, 20, .inl y))] s.heap := hP
  have hl := lv_entry ([.ref o0, .int (nI a), .int (nI b), .int (nI d)]) (n := 8) (Nat.le_of_ble_eq_true rfl)
  rw [lg_entry_eq]
  generalize (lg_sl ([.ref o0, .int (nI a), .int (nI b), .int (nI d)]) ++ List.replicate (8 - (lg_sl ([.ref o0, .int (nI a), .int (nI b), .int (nI d)])).length) Slot.unset).toArray = ls at hl ⊢
  have hl : lv_has ls 8 [(0, .ref o0), (1, .int (nI a)), (2, .int (nI b)), (3, .int (nI d))] := hl
  refine lv_iconst (v := 0) hx hb dX4_onCircle_0 (by decide) ?_
  refine lv_istore (lv' := [(4, .int 0), (0, .ref o0), (1, .int (nI a)), (2, .int (nI b)), (3, .int (nI d))]) hx hb dX4_onCircle_1 hl (by decide) rfl (fun ls hl => ?_)
  refine lv_iconst (v := nI 0) hx hb dX4_onCircle_3 (by decide) ?_
  refine lv_istore (lv' := [(5, .int (nI 0)), (4, .int 0), (0, .ref o0), (1, .int (nI a)), (2, .int (nI b)), (3, .int (nI d))]) hx hb dX4_onCircle_4 hl (by decide) rfl (fun ls hl => ?_)
  have loop : ∀ (f : Nat) (mk : Int32) (k : Nat) (R : Int32) (ls : Array Slot), (k ≤ n) → (n + 1 ≤ k + f) → r_on x y n a b d mk k = R → lv_has ls 8 [(0, .ref o0), (1, .int (nI a)), (2, .int (nI b)), (3, .int (nI d)), (4, .int mk), (5, .int (nI k))] → W p l e (headSpec wsX4_onCircle ({ frames := 2, cells := 0, slots := 0, locals := 62 })).room s m ([.ref o0, .int (nI a), .int (nI b), .int (nI d)] : List Value).toArray below meth c s.heap [] 0 0 (MQ below (k2_QcV (.int R)) ([.ref o0, .int (nI a), .int (nI b), .int (nI d)] : List Value).toArray s 0 0 (fun _ => False)) (F0 m 6 ls []) := by
    intro f
    induction f with
    | zero =>
      intro mk k R ls h1 h2
      omega
    | succ f ih_loop =>
      intro mk k R ls h1 h2 hF hl
      refine lv_iload hx hb dX4_onCircle_6 (lv_at hl 5 rfl) ?_
      refine lv_aload_n hx hb dX4_onCircle_8 rfl (lv_at hl 0 rfl) ?_
      refine va_get (D := (dC, dI)) (ci := 4) (v := .int (nI n)) (C := RX4) (T := TX4) (N := 11) hx hb hts (by decide +kernel) hown hK hP 0 rfl rfl 1 (by decide) (hts (.fieldLink RX4 32 "CircleCellsModel" "sites" "I") (by decide +kernel)) (fun _ h9 => h9) rfl dX4_onCircle_9 ?_
      refine q_icmp_ge (tgt := 62) (by omega) (by omega) hx hb dX4_onCircle_12 (by decide) (fun c12 => ?_) (fun c12 => ?_)
      · rw [r_on, if_neg (by omega)] at hF
        subst hF
        refine lv_iload hx hb dX4_onCircle_62 (lv_at hl 4 rfl) ?_
        exact W.iret (v := mk) hx hb hr q_ret (fun _ h => nomatch h) dX4_onCircle_64
      · rw [r_on, if_pos c12] at hF
        refine lv_aload_n hx hb dX4_onCircle_15 rfl (lv_at hl 0 rfl) ?_
        refine lv_iload_n hx hb dX4_onCircle_16 rfl (lv_at hl 1 rfl) ?_
        refine lv_iload_n hx hb dX4_onCircle_17 rfl (lv_at hl 2 rfl) ?_
        refine lv_iload_n hx hb dX4_onCircle_18 rfl (lv_at hl 3 rfl) ?_
        refine lv_iload hx hb dX4_onCircle_19 (lv_at hl 5 rfl) ?_
        refine q_cV (As := [.int (nI a), .int (nI b), .int (nI d), .int (nI k)]) (rest := []) ⟨hx, hb, hml, hown, hts⟩ (c_X4_power l dC dI o0 xb yb za ua wa va cI th (nI n) md nc hz x y a b d k (by omega) (by omega) (by omega) (by omega)) (cwV 4 hts gX4_onCircle_X4_power rfl rfl rfl (by decide +kernel) ⟨Nat.le_of_ble_eq_true rfl, Nat.le_of_ble_eq_true rfl⟩) (q_pV hK hP [0, 1, 2] [0] 4 0 rfl rfl rfl rfl rfl rfl) rfl hl.1 rfl (Nat.le_of_ble_eq_true rfl) ⟨Nat.zero_le _, Nat.zero_le _⟩ dX4_onCircle_21 ?_
        refine lv_lstore (lv' := [(6, .long (r_pow x y a b d k)), (0, .ref o0), (1, .int (nI a)), (2, .int (nI b)), (3, .int (nI d)), (4, .int mk), (5, .int (nI k))]) hx hb dX4_onCircle_24 hl (by decide) rfl (fun ls hl => ?_)
        refine lv_lload hx hb dX4_onCircle_26 (lv_at hl 0 rfl) ?_
        refine lv_lconst (v := 0) hx hb dX4_onCircle_28 (by decide) ?_
        refine q_lcmp_le (tgt := 35) hx hb dX4_onCircle_29 dX4_onCircle_30 (by decide) (fun c30 => ?_) (fun c30 => ?_)
        · rw [if_pos c30] at hF
          refine lv_lload hx hb dX4_onCircle_35 (lv_at hl 0 rfl) ?_
          refine lv_lconst (v := 0) hx hb dX4_onCircle_37 (by decide) ?_
          refine q_lcmp_ne (tgt := 52) hx hb dX4_onCircle_38 dX4_onCircle_39 (by decide) (fun c39 => ?_) (fun c39 => ?_)
          · rw [if_pos c39] at hF
            refine lv_iload hx hb dX4_onCircle_52 (lv_at hl 5 rfl) ?_
            refine lv_istore (lv' := [(4, .int mk), (6, .long (r_pow x y a b d k)), (0, .ref o0), (1, .int (nI a)), (2, .int (nI b)), (3, .int (nI d)), (5, .int (nI k))]) hx hb dX4_onCircle_54 hl (by decide) rfl (fun ls hl => ?_)
            refine lv_iinc (v := nI (k + 1)) (lv' := [(5, .int (nI (k + 1))), (4, .int mk), (6, .long (r_pow x y a b d k)), (0, .ref o0), (1, .int (nI a)), (2, .int (nI b)), (3, .int (nI d))]) hx hb dX4_onCircle_56 hl (k := 6) rfl (by rw [show Int32.ofInt 1 = 1 from rfl]; exact nI_1 _) (by decide) rfl (fun ls hl => ?_)
            refine lv_goto (tgt := 6) hx hb dX4_onCircle_59 (by decide) ?_
            exact ih_loop mk (k + 1) R ls (by omega) (by omega) hF (lv_sub hl [3, 4, 5, 6, 1, 0] rfl)
          · rw [if_neg (fun h => h c39)] at hF
            refine lv_iload hx hb dX4_onCircle_42 (lv_at hl 5 rfl) ?_
            refine lv_iconst (v := 1) hx hb dX4_onCircle_44 (by decide) ?_
            refine lv_iload hx hb dX4_onCircle_45 (lv_at hl 6 rfl) ?_
            refine lv_ishl hx hb dX4_onCircle_47 ?_
            refine lv_ior hx hb dX4_onCircle_48 ?_
            refine lv_goto (tgt := 54) hx hb dX4_onCircle_49 (by decide) ?_
            refine lv_istore (lv' := [(4, .int (mk ||| ((1 : Int32) <<< (nI k &&& 31)))), (6, .long (r_pow x y a b d k)), (0, .ref o0), (1, .int (nI a)), (2, .int (nI b)), (3, .int (nI d)), (5, .int (nI k))]) hx hb dX4_onCircle_54 hl (by decide) rfl (fun ls hl => ?_)
            refine lv_iinc (v := nI (k + 1)) (lv' := [(5, .int (nI (k + 1))), (4, .int (mk ||| ((1 : Int32) <<< (nI k &&& 31)))), (6, .long (r_pow x y a b d k)), (0, .ref o0), (1, .int (nI a)), (2, .int (nI b)), (3, .int (nI d))]) hx hb dX4_onCircle_56 hl (k := 6) rfl (by rw [show Int32.ofInt 1 = 1 from rfl]; exact nI_1 _) (by decide) rfl (fun ls hl => ?_)
            refine lv_goto (tgt := 6) hx hb dX4_onCircle_59 (by decide) ?_
            exact ih_loop (mk ||| ((1 : Int32) <<< (nI k &&& 31))) (k + 1) R ls (by omega) (by omega) hF (lv_sub hl [3, 4, 5, 6, 1, 0] rfl)
        · rw [if_neg c30] at hF
          subst hF
          refine lv_iconst (v := 0) hx hb dX4_onCircle_33 (by decide) ?_
          exact W.iret (v := 0) hx hb hr q_ret (fun _ h => nomatch h) dX4_onCircle_34
  exact loop (n + 1) 0 0 _ ls (by omega) (by omega) rfl (lv_sub hl [2, 3, 4, 5, 1, 0] rfl)
set_option maxHeartbeats 4000000 in
set_option maxRecDepth 100000 in
theorem c_X4_behind (l : Launch) (dC : Nat → ClassId) (dI : Nat → Nat → Nat) (o0 xb yb za ua wa va : Nat) (cI : ClassId) (th md nc hz : Int32) (x y : Nat → Int32) (mk : Int32) (n a : Nat) (ln : n ≤ 20) (la : a < n) : Met l yX4_behind wsX4_behind ({ frames := 1, cells := 0, slots := 0, locals := 24 }) (q_Pc (dC, dI) [.ref o0, .int mk, .int (nI a)] [(o0, .inr (4, [.int th, .int (nI n), .ref xb, .ref yb, .int md, .int nc, .ref za, .ref ua, .ref wa, .int hz, .ref va])), (xb, .inl (cI, 20, .inl x)), (yb, .inl (cI, 20, .inl y))] [(cI, .int)]) (k2_QcV (.int (nI (r_behind x y n mk a 0)))) 0 0 (fun _ => False) := by
  refine Met.ofW (cc := cX4_behind) (maxL := 6) (ret := (some .int)) (by decide) rfl ?_
  intro p e s m args below meth c s₁ B hml hv
  obtain ⟨rfl, hP, hK⟩ := hv
  have hx := B.exec
  have hb := B.bytes
  have hr := B.returns
  have hts := atoms_spec (ws := wsX4_behind) B.pre
  have hown : s.vm.findClass RX4 = some m.cls := findClass_of_methodNamed B.named
  have hlocks := B.notSynchronized
  have hP : va_P (dC, dI) vwCl [(o0, .inr (4, [.int th, .int (nI n), .ref xb, .ref yb, .int md, .int nc, .ref za, .ref ua, .ref wa, .int hz, .ref va])), (xb, .inl (cI, 20, .inl x)), (yb, .inl (cI, 20, .inl y))] s.heap := hP
  have hl := lv_entry ([.ref o0, .int mk, .int (nI a)]) (n := 6) (Nat.le_of_ble_eq_true rfl)
  rw [lg_entry_eq]
  generalize (lg_sl ([.ref o0, .int mk, .int (nI a)]) ++ List.replicate (6 - (lg_sl ([.ref o0, .int mk, .int (nI a)])).length) Slot.unset).toArray = ls at hl ⊢
  have hl : lv_has ls 6 [(0, .ref o0), (1, .int mk), (2, .int (nI a))] := hl
  refine lv_iconst (v := nI 0) hx hb dX4_behind_0 (by decide) ?_
  refine lv_istore_n (lv' := [(3, .int (nI 0)), (0, .ref o0), (1, .int mk), (2, .int (nI a))]) hx hb dX4_behind_1 rfl hl (by decide) rfl (fun ls hl => ?_)
  have loopA : ∀ (f : Nat) (k : Nat) (R : Nat) (ls : Array Slot), (k ≤ n) → (n + 1 ≤ k + f) → r_behind x y n mk a k = R → lv_has ls 6 [(0, .ref o0), (1, .int mk), (2, .int (nI a)), (3, .int (nI k))] → W p l e (headSpec wsX4_behind ({ frames := 1, cells := 0, slots := 0, locals := 24 })).room s m ([.ref o0, .int mk, .int (nI a)] : List Value).toArray below meth c s.heap [] 0 0 (MQ below (k2_QcV (.int (nI R))) ([.ref o0, .int mk, .int (nI a)] : List Value).toArray s 0 0 (fun _ => False)) (F0 m 2 ls []) := by
    intro f
    induction f with
    | zero =>
      intro k R ls h1 h2
      omega
    | succ f ih_loopA =>
      intro k R ls h1 h2 hF hl
      refine lv_iload_n hx hb dX4_behind_2 rfl (lv_at hl 3 rfl) ?_
      refine lv_aload_n hx hb dX4_behind_3 rfl (lv_at hl 0 rfl) ?_
      refine va_get (D := (dC, dI)) (ci := 4) (v := .int (nI n)) (C := RX4) (T := TX4) (N := 11) hx hb hts (by decide +kernel) hown hK hP 0 rfl rfl 1 (by decide) (hts (.fieldLink RX4 32 "CircleCellsModel" "sites" "I") (by decide +kernel)) (fun _ h9 => h9) rfl dX4_behind_4 ?_
      refine q_icmp_ge (tgt := 106) (by omega) (by omega) hx hb dX4_behind_7 (by decide) (fun c7 => ?_) (fun c7 => ?_)
      · rw [r_behind, if_neg (by omega)] at hF
        subst hF
        refine lv_iload_n hx hb dX4_behind_106 rfl (lv_at hl 2 rfl) ?_
        exact W.iret (v := nI a) hx hb hr q_ret (fun _ h => nomatch h) dX4_behind_107
      · rw [r_behind, if_pos c7] at hF
        refine lv_iload_n hx hb dX4_behind_10 rfl (lv_at hl 1 rfl) ?_
        refine lv_iload_n hx hb dX4_behind_11 rfl (lv_at hl 3 rfl) ?_
        refine lv_ishr hx hb dX4_behind_12 ?_
        refine lv_iconst (v := 1) hx hb dX4_behind_13 (by decide) ?_
        refine lv_iand hx hb dX4_behind_14 ?_
        refine lv_if_eq (tgt := 100) hx hb dX4_behind_15 (by decide) (fun c15 => ?_) (fun c15 => ?_)
        · rw [if_pos c15] at hF
          refine lv_iinc (v := nI (k + 1)) (lv' := [(3, .int (nI (k + 1))), (0, .ref o0), (1, .int mk), (2, .int (nI a))]) hx hb dX4_behind_100 hl (k := 3) rfl (by rw [show Int32.ofInt 1 = 1 from rfl]; exact nI_1 _) (by decide) rfl (fun ls hl => ?_)
          refine lv_goto (tgt := 2) hx hb dX4_behind_103 (by decide) ?_
          exact ih_loopA (k + 1) R ls (by omega) (by omega) hF (lv_sub hl [1, 2, 3, 0] rfl)
        · rw [if_neg c15] at hF
          refine lv_iload_n hx hb dX4_behind_18 rfl (lv_at hl 3 rfl) ?_
          refine lv_iload_n hx hb dX4_behind_19 rfl (lv_at hl 2 rfl) ?_
          refine q_icmp_ne (tgt := 26) (by omega) (by omega) hx hb dX4_behind_20 (by decide) (fun c20 => ?_) (fun c20 => ?_)
          · rw [if_neg c20] at hF
            refine lv_iconst (v := bI true) hx hb dX4_behind_26 (by decide) ?_
            refine lv_istore (lv' := [(4, .int (bI true)), (0, .ref o0), (1, .int mk), (2, .int (nI a)), (3, .int (nI k))]) hx hb dX4_behind_27 hl (by decide) rfl (fun ls hl => ?_)
            refine lv_iconst (v := nI 0) hx hb dX4_behind_29 (by decide) ?_
            refine lv_istore (lv' := [(5, .int (nI 0)), (4, .int (bI true)), (0, .ref o0), (1, .int mk), (2, .int (nI a)), (3, .int (nI k))]) hx hb dX4_behind_30 hl (by decide) rfl (fun ls hl => ?_)
            have loopB : ∀ (f : Nat) (t : Bool) (i : Nat) (R : Nat) (ls : Array Slot), (i ≤ n) → (n + 1 ≤ i + f) → (if r_gd x y n mk a k t i = false then r_behind x y n mk a (k + 1) else k) = R → lv_has ls 6 [(0, .ref o0), (1, .int mk), (2, .int (nI a)), (3, .int (nI k)), (4, .int (bI t)), (5, .int (nI i))] → W p l e (headSpec wsX4_behind ({ frames := 1, cells := 0, slots := 0, locals := 24 })).room s m ([.ref o0, .int mk, .int (nI a)] : List Value).toArray below meth c s.heap [] 0 0 (MQ below (k2_QcV (.int (nI R))) ([.ref o0, .int mk, .int (nI a)] : List Value).toArray s 0 0 (fun _ => False)) (F0 m 32 ls []) := by
              intro f
              induction f with
              | zero =>
                intro t i R ls h3 h4
                omega
              | succ f ih_loopB =>
                intro t i R ls h3 h4 hF hl
                refine lv_iload hx hb dX4_behind_32 (lv_at hl 5 rfl) ?_
                refine lv_aload_n hx hb dX4_behind_34 rfl (lv_at hl 0 rfl) ?_
                refine va_get (D := (dC, dI)) (ci := 4) (v := .int (nI n)) (C := RX4) (T := TX4) (N := 11) hx hb hts (by decide +kernel) hown hK hP 0 rfl rfl 1 (by decide) (hts (.fieldLink RX4 32 "CircleCellsModel" "sites" "I") (by decide +kernel)) (fun _ h9 => h9) rfl dX4_behind_35 ?_
                refine q_icmp_ge (tgt := 93) (by omega) (by omega) hx hb dX4_behind_38 (by decide) (fun c38 => ?_) (fun c38 => ?_)
                · rw [r_gd, if_neg (show ¬ i < n by omega)] at hF
                  refine lv_iload hx hb dX4_behind_93 (lv_at hl 4 rfl) ?_
                  refine q_ifb_eq (tgt := 100) hx hb dX4_behind_95 (by decide) (fun c95 => ?_) (fun c95 => ?_)
                  · rw [if_pos c95] at hF
                    refine lv_iinc (v := nI (k + 1)) (lv' := [(3, .int (nI (k + 1))), (0, .ref o0), (1, .int mk), (2, .int (nI a)), (4, .int (bI t)), (5, .int (nI i))]) hx hb dX4_behind_100 hl (k := 3) rfl (by rw [show Int32.ofInt 1 = 1 from rfl]; exact nI_1 _) (by decide) rfl (fun ls hl => ?_)
                    refine lv_goto (tgt := 2) hx hb dX4_behind_103 (by decide) ?_
                    exact ih_loopA (k + 1) R ls (by omega) (by omega) hF (lv_sub hl [1, 2, 3, 0] rfl)
                  · rw [if_neg (show ¬ t = false by rw [c95]; decide)] at hF
                    subst hF
                    refine lv_iload_n hx hb dX4_behind_98 rfl (lv_at hl 3 rfl) ?_
                    exact W.iret (v := nI k) hx hb hr q_ret (fun _ h => nomatch h) dX4_behind_99
                · rw [r_gd, if_pos c38] at hF
                  refine lv_iload hx hb dX4_behind_41 (lv_at hl 4 rfl) ?_
                  refine q_ifb_eq (tgt := 84) hx hb dX4_behind_43 (by decide) (fun c43 => ?_) (fun c43 => ?_)
                  · rw [if_pos c43] at hF
                    refine lv_iconst (v := bI false) hx hb dX4_behind_84 (by decide) ?_
                    refine lv_istore (lv' := [(4, .int (bI false)), (0, .ref o0), (1, .int mk), (2, .int (nI a)), (3, .int (nI k)), (5, .int (nI i))]) hx hb dX4_behind_85 hl (by decide) rfl (fun ls hl => ?_)
                    refine lv_iinc (v := nI (i + 1)) (lv' := [(5, .int (nI (i + 1))), (4, .int (bI false)), (0, .ref o0), (1, .int mk), (2, .int (nI a)), (3, .int (nI k))]) hx hb dX4_behind_87 hl (k := 5) rfl (by rw [show Int32.ofInt 1 = 1 from rfl]; exact nI_1 _) (by decide) rfl (fun ls hl => ?_)
                    refine lv_goto (tgt := 32) hx hb dX4_behind_90 (by decide) ?_
                    exact ih_loopB false (i + 1) R ls (by omega) (by omega) hF (lv_sub hl [2, 3, 4, 5, 1, 0] rfl)
                  · rw [if_neg (show ¬ t = false by rw [c43]; decide)] at hF
                    refine lv_iload_n hx hb dX4_behind_46 rfl (lv_at hl 1 rfl) ?_
                    refine lv_iload hx hb dX4_behind_47 (lv_at hl 5 rfl) ?_
                    refine lv_ishr hx hb dX4_behind_49 ?_
                    refine lv_iconst (v := 1) hx hb dX4_behind_50 (by decide) ?_
                    refine lv_iand hx hb dX4_behind_51 ?_
                    refine lv_if_eq (tgt := 80) hx hb dX4_behind_52 (by decide) (fun c52 => ?_) (fun c52 => ?_)
                    · rw [if_pos c52] at hF
                      refine lv_iconst (v := bI true) hx hb dX4_behind_80 (by decide) ?_
                      refine lv_goto (tgt := 85) hx hb dX4_behind_81 (by decide) ?_
                      refine lv_istore (lv' := [(4, .int (bI true)), (0, .ref o0), (1, .int mk), (2, .int (nI a)), (3, .int (nI k)), (5, .int (nI i))]) hx hb dX4_behind_85 hl (by decide) rfl (fun ls hl => ?_)
                      refine lv_iinc (v := nI (i + 1)) (lv' := [(5, .int (nI (i + 1))), (4, .int (bI true)), (0, .ref o0), (1, .int mk), (2, .int (nI a)), (3, .int (nI k))]) hx hb dX4_behind_87 hl (k := 5) rfl (by rw [show Int32.ofInt 1 = 1 from rfl]; exact nI_1 _) (by decide) rfl (fun ls hl => ?_)
                      refine lv_goto (tgt := 32) hx hb dX4_behind_90 (by decide) ?_
                      exact ih_loopB true (i + 1) R ls (by omega) (by omega) hF (lv_sub hl [2, 3, 4, 5, 1, 0] rfl)
                    · rw [if_neg c52] at hF
                      refine lv_aload_n hx hb dX4_behind_55 rfl (lv_at hl 0 rfl) ?_
                      refine lv_iload_n hx hb dX4_behind_56 rfl (lv_at hl 2 rfl) ?_
                      refine lv_iload_n hx hb dX4_behind_57 rfl (lv_at hl 3 rfl) ?_
                      refine lv_aload_n hx hb dX4_behind_58 rfl (lv_at hl 0 rfl) ?_
                      refine va_get (D := (dC, dI)) (ci := 4) (v := .ref xb) (C := RX4) (T := TX4) (N := 11) hx hb hts (by decide +kernel) hown hK hP 0 rfl rfl 2 (by decide) (hts (.fieldLink RX4 7 "CircleCellsModel" "x" "[I") (by decide +kernel)) (fun _ h9 => h9) rfl dX4_behind_59 ?_
                      refine lv_iload hx hb dX4_behind_62 (lv_at hl 5 rfl) ?_
                      refine q_iald hx hb hK hP 1 0 rfl rfl (i) rfl (by omega) (by decide) dX4_behind_64 ?_
                      refine lv_aload_n hx hb dX4_behind_65 rfl (lv_at hl 0 rfl) ?_
                      refine va_get (D := (dC, dI)) (ci := 4) (v := .ref yb) (C := RX4) (T := TX4) (N := 11) hx hb hts (by decide +kernel) hown hK hP 0 rfl rfl 3 (by decide) (hts (.fieldLink RX4 13 "CircleCellsModel" "y" "[I") (by decide +kernel)) (fun _ h9 => h9) rfl dX4_behind_66 ?_
                      refine lv_iload hx hb dX4_behind_69 (lv_at hl 5 rfl) ?_
                      refine q_iald hx hb hK hP 2 0 rfl rfl (i) rfl (by omega) (by decide) dX4_behind_71 ?_
                      refine q_cV (As := [.int (nI a), .int (nI k), .int (x i), .int (y i)]) (rest := []) ⟨hx, hb, hml, hown, hts⟩ (c_X4_turn l dC dI o0 xb yb za ua wa va cI th (nI n) md nc hz x y a k (x i) (y i) (by omega) (by omega)) (cwV 4 hts gX4_behind_X4_turn rfl rfl rfl (by decide +kernel) ⟨Nat.le_of_ble_eq_true rfl, Nat.le_of_ble_eq_true rfl⟩) (q_pV hK hP [0, 1, 2] [0] 4 0 rfl rfl rfl rfl rfl rfl) rfl hl.1 rfl (Nat.le_of_ble_eq_true rfl) ⟨Nat.zero_le _, Nat.zero_le _⟩ dX4_behind_72 ?_
                      refine lv_lconst (v := 0) hx hb dX4_behind_75 (by decide) ?_
                      refine q_lcmp_lt (tgt := 84) hx hb dX4_behind_76 dX4_behind_77 (by decide) (fun c77 => ?_) (fun c77 => ?_)
                      · rw [if_pos c77] at hF
                        refine lv_iconst (v := bI false) hx hb dX4_behind_84 (by decide) ?_
                        refine lv_istore (lv' := [(4, .int (bI false)), (0, .ref o0), (1, .int mk), (2, .int (nI a)), (3, .int (nI k)), (5, .int (nI i))]) hx hb dX4_behind_85 hl (by decide) rfl (fun ls hl => ?_)
                        refine lv_iinc (v := nI (i + 1)) (lv' := [(5, .int (nI (i + 1))), (4, .int (bI false)), (0, .ref o0), (1, .int mk), (2, .int (nI a)), (3, .int (nI k))]) hx hb dX4_behind_87 hl (k := 5) rfl (by rw [show Int32.ofInt 1 = 1 from rfl]; exact nI_1 _) (by decide) rfl (fun ls hl => ?_)
                        refine lv_goto (tgt := 32) hx hb dX4_behind_90 (by decide) ?_
                        exact ih_loopB false (i + 1) R ls (by omega) (by omega) hF (lv_sub hl [2, 3, 4, 5, 1, 0] rfl)
                      · rw [if_neg c77] at hF
                        refine lv_iconst (v := bI true) hx hb dX4_behind_80 (by decide) ?_
                        refine lv_goto (tgt := 85) hx hb dX4_behind_81 (by decide) ?_
                        refine lv_istore (lv' := [(4, .int (bI true)), (0, .ref o0), (1, .int mk), (2, .int (nI a)), (3, .int (nI k)), (5, .int (nI i))]) hx hb dX4_behind_85 hl (by decide) rfl (fun ls hl => ?_)
                        refine lv_iinc (v := nI (i + 1)) (lv' := [(5, .int (nI (i + 1))), (4, .int (bI true)), (0, .ref o0), (1, .int mk), (2, .int (nI a)), (3, .int (nI k))]) hx hb dX4_behind_87 hl (k := 5) rfl (by rw [show Int32.ofInt 1 = 1 from rfl]; exact nI_1 _) (by decide) rfl (fun ls hl => ?_)
                        refine lv_goto (tgt := 32) hx hb dX4_behind_90 (by decide) ?_
                        exact ih_loopB true (i + 1) R ls (by omega) (by omega) hF (lv_sub hl [2, 3, 4, 5, 1, 0] rfl)
            exact loopB (n + 1) true 0 _ ls (by omega) (by omega) hF (lv_sub hl [2, 3, 4, 5, 1, 0] rfl)
          · rw [if_pos c20] at hF
            refine lv_goto (tgt := 100) hx hb dX4_behind_23 (by decide) ?_
            refine lv_iinc (v := nI (k + 1)) (lv' := [(3, .int (nI (k + 1))), (0, .ref o0), (1, .int mk), (2, .int (nI a))]) hx hb dX4_behind_100 hl (k := 3) rfl (by rw [show Int32.ofInt 1 = 1 from rfl]; exact nI_1 _) (by decide) rfl (fun ls hl => ?_)
            refine lv_goto (tgt := 2) hx hb dX4_behind_103 (by decide) ?_
            exact ih_loopA (k + 1) R ls (by omega) (by omega) hF (lv_sub hl [1, 2, 3, 0] rfl)
  exact loopA (n + 1) 0 _ ls (by omega) (by omega) rfl (lv_sub hl [1, 2, 3, 0] rfl)
set_option maxHeartbeats 4000000 in
set_option maxRecDepth 100000 in
theorem c_X4_isBefore (l : Launch) (dC : Nat → ClassId) (dI : Nat → Nat → Nat) (o0 xb yb za ua wa va : Nat) (cI : ClassId) (th ns md nc hz : Int32) (sz rd : Nat → Nat) (a b : Nat) (la : a < 60) (lb : b < 60) (lz : ∀ j, sz j ≤ 20) (lr : ∀ j, rd j < 20) : Met l yX4_isBefore wsX4_isBefore ({ frames := 0, cells := 0, slots := 0, locals := 0 }) (q_Pc (dC, dI) [.ref o0, .int (nI a), .int (nI b)] [(o0, .inr (4, [.int th, .int ns, .ref xb, .ref yb, .int md, .int nc, .ref za, .ref ua, .ref wa, .int hz, .ref va])), (za, .inl (cI, 60, .inl (fun j => nI (sz j)))), (ua, .inl (cI, 1200, .inl (fun j => nI (rd j))))] [(cI, .int)]) (k2_QcV (.int (bI (r_bef sz rd a b 0)))) 0 0 (fun _ => False) := by
  refine Met.ofW (cc := cX4_isBefore) (maxL := 4) (ret := (some .boolean)) (by decide) rfl ?_
  intro p e s m args below meth c s₁ B hml hv
  obtain ⟨rfl, hP, hK⟩ := hv
  have hx := B.exec
  have hb := B.bytes
  have hr := B.returns
  have hts := atoms_spec (ws := wsX4_isBefore) B.pre
  have hown : s.vm.findClass RX4 = some m.cls := findClass_of_methodNamed B.named
  have hlocks := B.notSynchronized
  have hP : va_P (dC, dI) vwCl [(o0, .inr (4, [.int th, .int ns, .ref xb, .ref yb, .int md, .int nc, .ref za, .ref ua, .ref wa, .int hz, .ref va])), (za, .inl (cI, 60, .inl (fun j => nI (sz j)))), (ua, .inl (cI, 1200, .inl (fun j => nI (rd j))))] s.heap := hP
  have hl := lv_entry ([.ref o0, .int (nI a), .int (nI b)]) (n := 4) (Nat.le_of_ble_eq_true rfl)
  rw [lg_entry_eq]
  generalize (lg_sl ([.ref o0, .int (nI a), .int (nI b)]) ++ List.replicate (4 - (lg_sl ([.ref o0, .int (nI a), .int (nI b)])).length) Slot.unset).toArray = ls at hl ⊢
  have hl : lv_has ls 4 [(0, .ref o0), (1, .int (nI a)), (2, .int (nI b))] := hl
  refine lv_iconst (v := nI 0) hx hb dX4_isBefore_0 (by decide) ?_
  refine lv_istore_n (lv' := [(3, .int (nI 0)), (0, .ref o0), (1, .int (nI a)), (2, .int (nI b))]) hx hb dX4_isBefore_1 rfl hl (by decide) rfl (fun ls hl => ?_)
  have loop : ∀ (f : Nat) (i : Nat) (R : Bool) (ls : Array Slot), (i ≤ 20) → (20 + 1 ≤ i + f) → r_bef sz rd a b i = R → lv_has ls 4 [(0, .ref o0), (1, .int (nI a)), (2, .int (nI b)), (3, .int (nI i))] → W p l e (headSpec wsX4_isBefore ({ frames := 0, cells := 0, slots := 0, locals := 0 })).room s m ([.ref o0, .int (nI a), .int (nI b)] : List Value).toArray below meth c s.heap [] 0 0 (MQ below (k2_QcV (.int (bI R))) ([.ref o0, .int (nI a), .int (nI b)] : List Value).toArray s 0 0 (fun _ => False)) (F0 m 2 ls []) := by
    intro f
    induction f with
    | zero =>
      intro i R ls h1 h2
      omega
    | succ f ih_loop =>
      intro i R ls h1 h2 hF hl
      refine lv_iload_n hx hb dX4_isBefore_2 rfl (lv_at hl 3 rfl) ?_
      refine lv_aload_n hx hb dX4_isBefore_3 rfl (lv_at hl 0 rfl) ?_
      refine va_get (D := (dC, dI)) (ci := 4) (v := .ref za) (C := RX4) (T := TX4) (N := 11) hx hb hts (by decide +kernel) hown hK hP 0 rfl rfl 6 (by decide) (hts (.fieldLink RX4 16 "CircleCellsModel" "size" "[I") (by decide +kernel)) (fun _ h9 => h9) rfl dX4_isBefore_4 ?_
      refine lv_iload_n hx hb dX4_isBefore_7 rfl (lv_at hl 1 rfl) ?_
      refine q_iald hx hb hK hP 1 0 rfl rfl (a) rfl (by omega) (by decide) dX4_isBefore_8 ?_
      refine q_icmp_ge (tgt := 84) (by omega) (by have := lz a; omega) hx hb dX4_isBefore_9 (by decide) (fun c9 => ?_) (fun c9 => ?_)
      · rw [r_bef, if_neg (by omega)] at hF
        refine lv_aload_n hx hb dX4_isBefore_84 rfl (lv_at hl 0 rfl) ?_
        refine va_get (D := (dC, dI)) (ci := 4) (v := .ref za) (C := RX4) (T := TX4) (N := 11) hx hb hts (by decide +kernel) hown hK hP 0 rfl rfl 6 (by decide) (hts (.fieldLink RX4 16 "CircleCellsModel" "size" "[I") (by decide +kernel)) (fun _ h9 => h9) rfl dX4_isBefore_85 ?_
        refine lv_iload_n hx hb dX4_isBefore_88 rfl (lv_at hl 1 rfl) ?_
        refine q_iald hx hb hK hP 1 0 rfl rfl (a) rfl (by omega) (by decide) dX4_isBefore_89 ?_
        refine lv_aload_n hx hb dX4_isBefore_90 rfl (lv_at hl 0 rfl) ?_
        refine va_get (D := (dC, dI)) (ci := 4) (v := .ref za) (C := RX4) (T := TX4) (N := 11) hx hb hts (by decide +kernel) hown hK hP 0 rfl rfl 6 (by decide) (hts (.fieldLink RX4 16 "CircleCellsModel" "size" "[I") (by decide +kernel)) (fun _ h9 => h9) rfl dX4_isBefore_91 ?_
        refine lv_iload_n hx hb dX4_isBefore_94 rfl (lv_at hl 2 rfl) ?_
        refine q_iald hx hb hK hP 1 0 rfl rfl (b) rfl (by omega) (by decide) dX4_isBefore_95 ?_
        refine q_icmp_ge (tgt := 103) (by have := lz a; omega) (by have := lz b; omega) hx hb dX4_isBefore_96 (by decide) (fun c96 => ?_) (fun c96 => ?_)
        · rw [if_pos c96] at hF
          subst hF
          refine lv_iconst (v := bI false) hx hb dX4_isBefore_103 (by decide) ?_
          exact W.zret (v := bI false) hx hb hr (bI_nar _) q_ret (fun _ h => nomatch h) dX4_isBefore_104
        · rw [if_neg (by omega)] at hF
          subst hF
          refine lv_iconst (v := bI true) hx hb dX4_isBefore_99 (by decide) ?_
          refine lv_goto (tgt := 104) hx hb dX4_isBefore_100 (by decide) ?_
          exact W.zret (v := bI true) hx hb hr (bI_nar _) q_ret (fun _ h => nomatch h) dX4_isBefore_104
      · rw [r_bef, if_pos c9] at hF
        refine lv_iload_n hx hb dX4_isBefore_12 rfl (lv_at hl 3 rfl) ?_
        refine lv_aload_n hx hb dX4_isBefore_13 rfl (lv_at hl 0 rfl) ?_
        refine va_get (D := (dC, dI)) (ci := 4) (v := .ref za) (C := RX4) (T := TX4) (N := 11) hx hb hts (by decide +kernel) hown hK hP 0 rfl rfl 6 (by decide) (hts (.fieldLink RX4 16 "CircleCellsModel" "size" "[I") (by decide +kernel)) (fun _ h9 => h9) rfl dX4_isBefore_14 ?_
        refine lv_iload_n hx hb dX4_isBefore_17 rfl (lv_at hl 2 rfl) ?_
        refine q_iald hx hb hK hP 1 0 rfl rfl (b) rfl (by omega) (by decide) dX4_isBefore_18 ?_
        refine q_icmp_ge (tgt := 84) (by omega) (by have := lz b; omega) hx hb dX4_isBefore_19 (by decide) (fun c19 => ?_) (fun c19 => ?_)
        · rw [if_neg (by omega)] at hF
          refine lv_aload_n hx hb dX4_isBefore_84 rfl (lv_at hl 0 rfl) ?_
          refine va_get (D := (dC, dI)) (ci := 4) (v := .ref za) (C := RX4) (T := TX4) (N := 11) hx hb hts (by decide +kernel) hown hK hP 0 rfl rfl 6 (by decide) (hts (.fieldLink RX4 16 "CircleCellsModel" "size" "[I") (by decide +kernel)) (fun _ h9 => h9) rfl dX4_isBefore_85 ?_
          refine lv_iload_n hx hb dX4_isBefore_88 rfl (lv_at hl 1 rfl) ?_
          refine q_iald hx hb hK hP 1 0 rfl rfl (a) rfl (by omega) (by decide) dX4_isBefore_89 ?_
          refine lv_aload_n hx hb dX4_isBefore_90 rfl (lv_at hl 0 rfl) ?_
          refine va_get (D := (dC, dI)) (ci := 4) (v := .ref za) (C := RX4) (T := TX4) (N := 11) hx hb hts (by decide +kernel) hown hK hP 0 rfl rfl 6 (by decide) (hts (.fieldLink RX4 16 "CircleCellsModel" "size" "[I") (by decide +kernel)) (fun _ h9 => h9) rfl dX4_isBefore_91 ?_
          refine lv_iload_n hx hb dX4_isBefore_94 rfl (lv_at hl 2 rfl) ?_
          refine q_iald hx hb hK hP 1 0 rfl rfl (b) rfl (by omega) (by decide) dX4_isBefore_95 ?_
          refine q_icmp_ge (tgt := 103) (by have := lz a; omega) (by have := lz b; omega) hx hb dX4_isBefore_96 (by decide) (fun c96 => ?_) (fun c96 => ?_)
          · rw [if_pos c96] at hF
            subst hF
            refine lv_iconst (v := bI false) hx hb dX4_isBefore_103 (by decide) ?_
            exact W.zret (v := bI false) hx hb hr (bI_nar _) q_ret (fun _ h => nomatch h) dX4_isBefore_104
          · rw [if_neg (by omega)] at hF
            subst hF
            refine lv_iconst (v := bI true) hx hb dX4_isBefore_99 (by decide) ?_
            refine lv_goto (tgt := 104) hx hb dX4_isBefore_100 (by decide) ?_
            exact W.zret (v := bI true) hx hb hr (bI_nar _) q_ret (fun _ h => nomatch h) dX4_isBefore_104
        · rw [if_pos c19] at hF
          refine lv_aload_n hx hb dX4_isBefore_22 rfl (lv_at hl 0 rfl) ?_
          refine va_get (D := (dC, dI)) (ci := 4) (v := .ref ua) (C := RX4) (T := TX4) (N := 11) hx hb hts (by decide +kernel) hown hK hP 0 rfl rfl 7 (by decide) (hts (.fieldLink RX4 19 "CircleCellsModel" "round" "[I") (by decide +kernel)) (fun _ h9 => h9) rfl dX4_isBefore_23 ?_
          refine lv_bipush (v := nI 20) hx hb dX4_isBefore_26 (by decide) ?_
          refine lv_iload_n hx hb dX4_isBefore_28 rfl (lv_at hl 1 rfl) ?_
          refine q_imul hx hb dX4_isBefore_29 ?_
          refine lv_iload_n hx hb dX4_isBefore_30 rfl (lv_at hl 3 rfl) ?_
          refine q_iadd hx hb dX4_isBefore_31 ?_
          refine q_iald hx hb hK hP 2 0 rfl rfl ((20 * a) + i) rfl (by have := lz a; have := lz b; omega) (by decide) dX4_isBefore_32 ?_
          refine lv_aload_n hx hb dX4_isBefore_33 rfl (lv_at hl 0 rfl) ?_
          refine va_get (D := (dC, dI)) (ci := 4) (v := .ref ua) (C := RX4) (T := TX4) (N := 11) hx hb hts (by decide +kernel) hown hK hP 0 rfl rfl 7 (by decide) (hts (.fieldLink RX4 19 "CircleCellsModel" "round" "[I") (by decide +kernel)) (fun _ h9 => h9) rfl dX4_isBefore_34 ?_
          refine lv_bipush (v := nI 20) hx hb dX4_isBefore_37 (by decide) ?_
          refine lv_iload_n hx hb dX4_isBefore_39 rfl (lv_at hl 2 rfl) ?_
          refine q_imul hx hb dX4_isBefore_40 ?_
          refine lv_iload_n hx hb dX4_isBefore_41 rfl (lv_at hl 3 rfl) ?_
          refine q_iadd hx hb dX4_isBefore_42 ?_
          refine q_iald hx hb hK hP 2 0 rfl rfl ((20 * b) + i) rfl (by have := lz a; have := lz b; omega) (by decide) dX4_isBefore_43 ?_
          refine q_icmp_eq (tgt := 78) (by have := lr (20 * a + i); omega) (by have := lr (20 * b + i); omega) hx hb dX4_isBefore_44 (by decide) (fun c44 => ?_) (fun c44 => ?_)
          · rw [if_pos c44] at hF
            refine lv_iinc (v := nI (i + 1)) (lv' := [(3, .int (nI (i + 1))), (0, .ref o0), (1, .int (nI a)), (2, .int (nI b))]) hx hb dX4_isBefore_78 hl (k := 3) rfl (by rw [show Int32.ofInt 1 = 1 from rfl]; exact nI_1 _) (by decide) rfl (fun ls hl => ?_)
            refine lv_goto (tgt := 2) hx hb dX4_isBefore_81 (by decide) ?_
            exact ih_loop (i + 1) R ls (by have := lz a; omega) (by omega) hF (lv_sub hl [1, 2, 3, 0] rfl)
          · rw [if_neg c44] at hF
            refine lv_aload_n hx hb dX4_isBefore_47 rfl (lv_at hl 0 rfl) ?_
            refine va_get (D := (dC, dI)) (ci := 4) (v := .ref ua) (C := RX4) (T := TX4) (N := 11) hx hb hts (by decide +kernel) hown hK hP 0 rfl rfl 7 (by decide) (hts (.fieldLink RX4 19 "CircleCellsModel" "round" "[I") (by decide +kernel)) (fun _ h9 => h9) rfl dX4_isBefore_48 ?_
            refine lv_bipush (v := nI 20) hx hb dX4_isBefore_51 (by decide) ?_
            refine lv_iload_n hx hb dX4_isBefore_53 rfl (lv_at hl 1 rfl) ?_
            refine q_imul hx hb dX4_isBefore_54 ?_
            refine lv_iload_n hx hb dX4_isBefore_55 rfl (lv_at hl 3 rfl) ?_
            refine q_iadd hx hb dX4_isBefore_56 ?_
            refine q_iald hx hb hK hP 2 0 rfl rfl ((20 * a) + i) rfl (by have := lz a; have := lz b; omega) (by decide) dX4_isBefore_57 ?_
            refine lv_aload_n hx hb dX4_isBefore_58 rfl (lv_at hl 0 rfl) ?_
            refine va_get (D := (dC, dI)) (ci := 4) (v := .ref ua) (C := RX4) (T := TX4) (N := 11) hx hb hts (by decide +kernel) hown hK hP 0 rfl rfl 7 (by decide) (hts (.fieldLink RX4 19 "CircleCellsModel" "round" "[I") (by decide +kernel)) (fun _ h9 => h9) rfl dX4_isBefore_59 ?_
            refine lv_bipush (v := nI 20) hx hb dX4_isBefore_62 (by decide) ?_
            refine lv_iload_n hx hb dX4_isBefore_64 rfl (lv_at hl 2 rfl) ?_
            refine q_imul hx hb dX4_isBefore_65 ?_
            refine lv_iload_n hx hb dX4_isBefore_66 rfl (lv_at hl 3 rfl) ?_
            refine q_iadd hx hb dX4_isBefore_67 ?_
            refine q_iald hx hb hK hP 2 0 rfl rfl ((20 * b) + i) rfl (by have := lz a; have := lz b; omega) (by decide) dX4_isBefore_68 ?_
            refine q_icmp_ge (tgt := 76) (by have := lr (20 * a + i); omega) (by have := lr (20 * b + i); omega) hx hb dX4_isBefore_69 (by decide) (fun c69 => ?_) (fun c69 => ?_)
            · rw [if_pos c69] at hF
              subst hF
              refine lv_iconst (v := bI false) hx hb dX4_isBefore_76 (by decide) ?_
              exact W.zret (v := bI false) hx hb hr (bI_nar _) q_ret (fun _ h => nomatch h) dX4_isBefore_77
            · rw [if_neg (by omega)] at hF
              subst hF
              refine lv_iconst (v := bI true) hx hb dX4_isBefore_72 (by decide) ?_
              refine lv_goto (tgt := 77) hx hb dX4_isBefore_73 (by decide) ?_
              exact W.zret (v := bI true) hx hb hr (bI_nar _) q_ret (fun _ h => nomatch h) dX4_isBefore_77
  exact loop (20 + 1) 0 _ ls (by omega) (by omega) rfl (lv_sub hl [1, 2, 3, 0] rfl)
set_option maxHeartbeats 4000000 in
set_option maxRecDepth 100000 in
theorem c_X4_after (l : Launch) (dC : Nat → ClassId) (dI : Nat → Nat → Nat) (o0 xb yb za ua wa va : Nat) (cI : ClassId) (th ns md nc hz : Int32) (sz rd : Nat → Nat) (d i : Nat) (ld : d < 60) (li : i < sz d) (lz : sz d ≤ 20) : Met l yX4_after wsX4_after ({ frames := 0, cells := 0, slots := 0, locals := 0 }) (q_Pc (dC, dI) [.ref o0, .int (nI d), .int (nI i)] [(o0, .inr (4, [.int th, .int ns, .ref xb, .ref yb, .int md, .int nc, .ref za, .ref ua, .ref wa, .int hz, .ref va])), (za, .inl (cI, 60, .inl (fun j => nI (sz j)))), (ua, .inl (cI, 1200, .inl (fun j => nI (rd j))))] [(cI, .int)]) (k2_QcV (.int (nI (r_after sz rd d i)))) 0 0 (fun _ => False) := by
  refine Met.ofW (cc := cX4_after) (maxL := 3) (ret := (some .int)) (by decide) rfl ?_
  intro p e s m args below meth c s₁ B hml hv
  obtain ⟨rfl, hP, hK⟩ := hv
  have hx := B.exec
  have hb := B.bytes
  have hr := B.returns
  have hts := atoms_spec (ws := wsX4_after) B.pre
  have hown : s.vm.findClass RX4 = some m.cls := findClass_of_methodNamed B.named
  have hlocks := B.notSynchronized
  have hP : va_P (dC, dI) vwCl [(o0, .inr (4, [.int th, .int ns, .ref xb, .ref yb, .int md, .int nc, .ref za, .ref ua, .ref wa, .int hz, .ref va])), (za, .inl (cI, 60, .inl (fun j => nI (sz j)))), (ua, .inl (cI, 1200, .inl (fun j => nI (rd j))))] s.heap := hP
  have hl := lv_entry ([.ref o0, .int (nI d), .int (nI i)]) (n := 3) (Nat.le_of_ble_eq_true rfl)
  rw [lg_entry_eq]
  generalize (lg_sl ([.ref o0, .int (nI d), .int (nI i)]) ++ List.replicate (3 - (lg_sl ([.ref o0, .int (nI d), .int (nI i)])).length) Slot.unset).toArray = ls at hl ⊢
  have hl : lv_has ls 3 [(0, .ref o0), (1, .int (nI d)), (2, .int (nI i))] := hl
  refine lv_aload_n hx hb dX4_after_0 rfl (lv_at hl 0 rfl) ?_
  refine va_get (D := (dC, dI)) (ci := 4) (v := .ref ua) (C := RX4) (T := TX4) (N := 11) hx hb hts (by decide +kernel) hown hK hP 0 rfl rfl 7 (by decide) (hts (.fieldLink RX4 19 "CircleCellsModel" "round" "[I") (by decide +kernel)) (fun _ h9 => h9) rfl dX4_after_1 ?_
  refine lv_bipush (v := nI 20) hx hb dX4_after_4 (by decide) ?_
  refine lv_iload_n hx hb dX4_after_6 rfl (lv_at hl 1 rfl) ?_
  refine q_imul hx hb dX4_after_7 ?_
  refine lv_iload_n hx hb dX4_after_8 rfl (lv_at hl 2 rfl) ?_
  refine lv_iconst (v := nI 1) hx hb dX4_after_9 (by decide) ?_
  refine q_iadd hx hb dX4_after_10 ?_
  refine lv_aload_n hx hb dX4_after_11 rfl (lv_at hl 0 rfl) ?_
  refine va_get (D := (dC, dI)) (ci := 4) (v := .ref za) (C := RX4) (T := TX4) (N := 11) hx hb hts (by decide +kernel) hown hK hP 0 rfl rfl 6 (by decide) (hts (.fieldLink RX4 16 "CircleCellsModel" "size" "[I") (by decide +kernel)) (fun _ h9 => h9) rfl dX4_after_12 ?_
  refine lv_iload_n hx hb dX4_after_15 rfl (lv_at hl 1 rfl) ?_
  refine q_iald hx hb hK hP 1 0 rfl rfl (d) rfl (by omega) (by decide) dX4_after_16 ?_
  refine q_irem (by omega) (by omega) (by omega) hx hb dX4_after_17 ?_
  refine q_iadd hx hb dX4_after_18 ?_
  refine q_iald hx hb hK hP 2 0 rfl rfl ((20 * d) + ((i + 1) % (sz d))) rfl (by have := Nat.mod_lt (i + 1) (show 0 < sz d by omega); omega) (by decide) dX4_after_19 ?_
  exact W.iret (v := nI (rd ((20 * d) + ((i + 1) % (sz d))))) hx hb hr q_ret (fun _ h => nomatch h) dX4_after_20
set_option maxHeartbeats 4000000 in
set_option maxRecDepth 100000 in
theorem c_X4_withSide (l : Launch) (dC : Nat → ClassId) (dI : Nat → Nat → Nat) (o0 xb yb za ua wa va : Nat) (cI : ClassId) (th ns md hz : Int32) (od sz rd : Nat → Nat) (n a b : Nat) (ln : n ≤ 60) (la : a < 20) (lb : b < 20) (lo : ∀ j, j < n → od j < 60) (lz : ∀ j, sz j ≤ 20) (lr : ∀ j, rd j < 20) : Met l yX4_withSide wsX4_withSide ({ frames := 1, cells := 0, slots := 0, locals := 22 }) (q_Pc (dC, dI) [.ref o0, .int (nI a), .int (nI b)] [(o0, .inr (4, [.int th, .int ns, .ref xb, .ref yb, .int md, .int (nI n), .ref za, .ref ua, .ref wa, .int hz, .ref va])), (za, .inl (cI, 60, .inl (fun j => nI (sz j)))), (ua, .inl (cI, 1200, .inl (fun j => nI (rd j)))), (wa, .inl (cI, 60, .inl (fun j => nI (od j))))] [(cI, .int)]) (k2_QcV (.int (r_ws od sz rd n a b 0))) 0 0 (fun _ => False) := by
  refine Met.ofW (cc := cX4_withSide) (maxL := 6) (ret := (some .int)) (by decide) rfl ?_
  intro p e s m args below meth c s₁ B hml hv
  obtain ⟨rfl, hP, hK⟩ := hv
  have hx := B.exec
  have hb := B.bytes
  have hr := B.returns
  have hts := atoms_spec (ws := wsX4_withSide) B.pre
  have hown : s.vm.findClass RX4 = some m.cls := findClass_of_methodNamed B.named
  have hlocks := B.notSynchronized
  have hP : va_P (dC, dI) vwCl [(o0, .inr (4, [.int th, .int ns, .ref xb, .ref yb, .int md, .int (nI n), .ref za, .ref ua, .ref wa, .int hz, .ref va])), (za, .inl (cI, 60, .inl (fun j => nI (sz j)))), (ua, .inl (cI, 1200, .inl (fun j => nI (rd j)))), (wa, .inl (cI, 60, .inl (fun j => nI (od j))))] s.heap := hP
  have hl := lv_entry ([.ref o0, .int (nI a), .int (nI b)]) (n := 6) (Nat.le_of_ble_eq_true rfl)
  rw [lg_entry_eq]
  generalize (lg_sl ([.ref o0, .int (nI a), .int (nI b)]) ++ List.replicate (6 - (lg_sl ([.ref o0, .int (nI a), .int (nI b)])).length) Slot.unset).toArray = ls at hl ⊢
  have hl : lv_has ls 6 [(0, .ref o0), (1, .int (nI a)), (2, .int (nI b))] := hl
  refine lv_iconst (v := nI 0) hx hb dX4_withSide_0 (by decide) ?_
  refine lv_istore_n (lv' := [(3, .int (nI 0)), (0, .ref o0), (1, .int (nI a)), (2, .int (nI b))]) hx hb dX4_withSide_1 rfl hl (by decide) rfl (fun ls hl => ?_)
  have loopA : ∀ (f : Nat) (k : Nat) (R : Int32) (ls : Array Slot), (k ≤ n) → (n + 1 ≤ k + f) → r_ws od sz rd n a b k = R → lv_has ls 6 [(0, .ref o0), (1, .int (nI a)), (2, .int (nI b)), (3, .int (nI k))] → W p l e (headSpec wsX4_withSide ({ frames := 1, cells := 0, slots := 0, locals := 22 })).room s m ([.ref o0, .int (nI a), .int (nI b)] : List Value).toArray below meth c s.heap [] 0 0 (MQ below (k2_QcV (.int R)) ([.ref o0, .int (nI a), .int (nI b)] : List Value).toArray s 0 0 (fun _ => False)) (F0 m 2 ls []) := by
    intro f
    induction f with
    | zero =>
      intro k R ls h1 h2
      omega
    | succ f ih_loopA =>
      intro k R ls h1 h2 hF hl
      refine lv_iload_n hx hb dX4_withSide_2 rfl (lv_at hl 3 rfl) ?_
      refine lv_aload_n hx hb dX4_withSide_3 rfl (lv_at hl 0 rfl) ?_
      refine va_get (D := (dC, dI)) (ci := 4) (v := .int (nI n)) (C := RX4) (T := TX4) (N := 11) hx hb hts (by decide +kernel) hown hK hP 0 rfl rfl 5 (by decide) (hts (.fieldLink RX4 65 "CircleCellsModel" "cells" "I") (by decide +kernel)) (fun _ h9 => h9) rfl dX4_withSide_4 ?_
      refine q_icmp_ge (tgt := 76) (by omega) (by omega) hx hb dX4_withSide_7 (by decide) (fun c7 => ?_) (fun c7 => ?_)
      · rw [r_ws, if_neg (by omega)] at hF
        subst hF
        refine lv_iconst (v := (-1)) hx hb dX4_withSide_76 (by decide) ?_
        exact W.iret (v := (-1)) hx hb hr q_ret (fun _ h => nomatch h) dX4_withSide_77
      · rw [r_ws, if_pos c7] at hF
        have lok := lo k c7
        refine lv_aload_n hx hb dX4_withSide_10 rfl (lv_at hl 0 rfl) ?_
        refine va_get (D := (dC, dI)) (ci := 4) (v := .ref wa) (C := RX4) (T := TX4) (N := 11) hx hb hts (by decide +kernel) hown hK hP 0 rfl rfl 8 (by decide) (hts (.fieldLink RX4 22 "CircleCellsModel" "order" "[I") (by decide +kernel)) (fun _ h9 => h9) rfl dX4_withSide_11 ?_
        refine lv_iload_n hx hb dX4_withSide_14 rfl (lv_at hl 3 rfl) ?_
        refine q_iald hx hb hK hP 3 0 rfl rfl (k) rfl (by omega) (by decide) dX4_withSide_15 ?_
        refine lv_istore (lv' := [(4, .int (nI (od k))), (0, .ref o0), (1, .int (nI a)), (2, .int (nI b)), (3, .int (nI k))]) hx hb dX4_withSide_16 hl (by decide) rfl (fun ls hl => ?_)
        refine lv_iconst (v := nI 0) hx hb dX4_withSide_18 (by decide) ?_
        refine lv_istore (lv' := [(5, .int (nI 0)), (4, .int (nI (od k))), (0, .ref o0), (1, .int (nI a)), (2, .int (nI b)), (3, .int (nI k))]) hx hb dX4_withSide_19 hl (by decide) rfl (fun ls hl => ?_)
        have loopB : ∀ (f : Nat) (i : Nat) (R : Int32) (ls : Array Slot), (i ≤ sz (od k)) → (sz (od k) + 1 ≤ i + f) → (if r_wi sz rd (od k) a b i = true then nI k else r_ws od sz rd n a b (k + 1)) = R → lv_has ls 6 [(0, .ref o0), (1, .int (nI a)), (2, .int (nI b)), (3, .int (nI k)), (4, .int (nI (od k))), (5, .int (nI i))] → W p l e (headSpec wsX4_withSide ({ frames := 1, cells := 0, slots := 0, locals := 22 })).room s m ([.ref o0, .int (nI a), .int (nI b)] : List Value).toArray below meth c s.heap [] 0 0 (MQ below (k2_QcV (.int R)) ([.ref o0, .int (nI a), .int (nI b)] : List Value).toArray s 0 0 (fun _ => False)) (F0 m 21 ls []) := by
          intro f
          induction f with
          | zero =>
            intro i R ls h3 h4
            omega
          | succ f ih_loopB =>
            intro i R ls h3 h4 hF hl
            refine lv_iload hx hb dX4_withSide_21 (lv_at hl 5 rfl) ?_
            refine lv_aload_n hx hb dX4_withSide_23 rfl (lv_at hl 0 rfl) ?_
            refine va_get (D := (dC, dI)) (ci := 4) (v := .ref za) (C := RX4) (T := TX4) (N := 11) hx hb hts (by decide +kernel) hown hK hP 0 rfl rfl 6 (by decide) (hts (.fieldLink RX4 16 "CircleCellsModel" "size" "[I") (by decide +kernel)) (fun _ h9 => h9) rfl dX4_withSide_24 ?_
            refine lv_iload hx hb dX4_withSide_27 (lv_at hl 4 rfl) ?_
            refine q_iald hx hb hK hP 1 0 rfl rfl (od k) rfl (by omega) (by decide) dX4_withSide_29 ?_
            refine q_icmp_ge (tgt := 70) (by have := lz (od k); omega) (by have := lz (od k); omega) hx hb dX4_withSide_30 (by decide) (fun c30 => ?_) (fun c30 => ?_)
            · rw [r_wi, if_neg (show ¬ i < sz (od k) by omega), if_neg (by decide)] at hF
              refine lv_iinc (v := nI (k + 1)) (lv' := [(3, .int (nI (k + 1))), (0, .ref o0), (1, .int (nI a)), (2, .int (nI b)), (4, .int (nI (od k))), (5, .int (nI i))]) hx hb dX4_withSide_70 hl (k := 3) rfl (by rw [show Int32.ofInt 1 = 1 from rfl]; exact nI_1 _) (by decide) rfl (fun ls hl => ?_)
              refine lv_goto (tgt := 2) hx hb dX4_withSide_73 (by decide) ?_
              exact ih_loopA (k + 1) R ls (by omega) (by omega) hF (lv_sub hl [1, 2, 3, 0] rfl)
            · rw [r_wi, if_pos c30] at hF
              refine lv_aload_n hx hb dX4_withSide_33 rfl (lv_at hl 0 rfl) ?_
              refine va_get (D := (dC, dI)) (ci := 4) (v := .ref ua) (C := RX4) (T := TX4) (N := 11) hx hb hts (by decide +kernel) hown hK hP 0 rfl rfl 7 (by decide) (hts (.fieldLink RX4 19 "CircleCellsModel" "round" "[I") (by decide +kernel)) (fun _ h9 => h9) rfl dX4_withSide_34 ?_
              refine lv_bipush (v := nI 20) hx hb dX4_withSide_37 (by decide) ?_
              refine lv_iload hx hb dX4_withSide_39 (lv_at hl 4 rfl) ?_
              refine q_imul hx hb dX4_withSide_41 ?_
              refine lv_iload hx hb dX4_withSide_42 (lv_at hl 5 rfl) ?_
              refine q_iadd hx hb dX4_withSide_44 ?_
              refine q_iald hx hb hK hP 2 0 rfl rfl ((20 * (od k)) + i) rfl (by have := lz (od k); omega) (by decide) dX4_withSide_45 ?_
              refine lv_iload_n hx hb dX4_withSide_46 rfl (lv_at hl 1 rfl) ?_
              refine q_icmp_ne (tgt := 64) (by have := lr (20 * od k + i); omega) (by omega) hx hb dX4_withSide_47 (by decide) (fun c47 => ?_) (fun c47 => ?_)
              · rw [if_neg c47] at hF
                refine lv_iinc (v := nI (i + 1)) (lv' := [(5, .int (nI (i + 1))), (0, .ref o0), (1, .int (nI a)), (2, .int (nI b)), (3, .int (nI k)), (4, .int (nI (od k)))]) hx hb dX4_withSide_64 hl (k := 5) rfl (by rw [show Int32.ofInt 1 = 1 from rfl]; exact nI_1 _) (by decide) rfl (fun ls hl => ?_)
                refine lv_goto (tgt := 21) hx hb dX4_withSide_67 (by decide) ?_
                exact ih_loopB (i + 1) R ls (by omega) (by omega) hF (lv_sub hl [1, 2, 3, 4, 5, 0] rfl)
              · rw [if_pos c47] at hF
                refine lv_aload_n hx hb dX4_withSide_50 rfl (lv_at hl 0 rfl) ?_
                refine lv_iload hx hb dX4_withSide_51 (lv_at hl 4 rfl) ?_
                refine lv_iload hx hb dX4_withSide_53 (lv_at hl 5 rfl) ?_
                refine q_cV (As := [.int (nI (od k)), .int (nI i)]) (rest := []) ⟨hx, hb, hml, hown, hts⟩ (c_X4_after l dC dI o0 xb yb za ua wa va cI th ns md (nI n) hz sz rd (od k) i (by omega) (by omega) (lz _)) (cwV 2 hts gX4_withSide_X4_after rfl rfl rfl (by decide +kernel) ⟨Nat.le_of_ble_eq_true rfl, Nat.le_of_ble_eq_true rfl⟩) (q_pV hK hP [0, 1, 2] [0] 4 0 rfl rfl rfl rfl rfl rfl) rfl hl.1 rfl (Nat.le_of_ble_eq_true rfl) ⟨Nat.zero_le _, Nat.zero_le _⟩ dX4_withSide_55 ?_
                refine lv_iload_n hx hb dX4_withSide_58 rfl (lv_at hl 2 rfl) ?_
                refine q_icmp_ne (tgt := 64) (by have h9 : r_after sz rd (od k) i < 20 := lr _; omega) (by omega) hx hb dX4_withSide_59 (by decide) (fun c59 => ?_) (fun c59 => ?_)
                · rw [if_neg c59] at hF
                  refine lv_iinc (v := nI (i + 1)) (lv' := [(5, .int (nI (i + 1))), (0, .ref o0), (1, .int (nI a)), (2, .int (nI b)), (3, .int (nI k)), (4, .int (nI (od k)))]) hx hb dX4_withSide_64 hl (k := 5) rfl (by rw [show Int32.ofInt 1 = 1 from rfl]; exact nI_1 _) (by decide) rfl (fun ls hl => ?_)
                  refine lv_goto (tgt := 21) hx hb dX4_withSide_67 (by decide) ?_
                  exact ih_loopB (i + 1) R ls (by omega) (by omega) hF (lv_sub hl [1, 2, 3, 4, 5, 0] rfl)
                · rw [if_pos c59, if_pos rfl] at hF
                  subst hF
                  refine lv_iload_n hx hb dX4_withSide_62 rfl (lv_at hl 3 rfl) ?_
                  exact W.iret (v := nI k) hx hb hr q_ret (fun _ h => nomatch h) dX4_withSide_63
        exact loopB (sz (od k) + 1) 0 _ ls (by omega) (by omega) hF (lv_sub hl [2, 3, 4, 5, 1, 0] rfl)
  exact loopA (n + 1) 0 _ ls (by omega) (by omega) rfl (lv_sub hl [1, 2, 3, 0] rfl)
set_option maxHeartbeats 4000000 in
set_option maxRecDepth 100000 in
theorem c_X4_onHull (l : Launch) (dC : Nat → ClassId) (dI : Nat → Nat → Nat) (o0 xb yb za ua wa va : Nat) (cI : ClassId) (th ns md hz : Int32) (od sz rd : Nat → Nat) (n v : Nat) (ln : n ≤ 60) (lv : v < 20) (lo : ∀ j, j < n → od j < 60) (lz : ∀ j, sz j ≤ 20) (lr : ∀ j, rd j < 20) : Met l yX4_onHull wsX4_onHull ({ frames := 2, cells := 0, slots := 0, locals := 47 }) (q_Pc (dC, dI) [.ref o0, .int (nI v)] [(o0, .inr (4, [.int th, .int ns, .ref xb, .ref yb, .int md, .int (nI n), .ref za, .ref ua, .ref wa, .int hz, .ref va])), (za, .inl (cI, 60, .inl (fun j => nI (sz j)))), (ua, .inl (cI, 1200, .inl (fun j => nI (rd j)))), (wa, .inl (cI, 60, .inl (fun j => nI (od j))))] [(cI, .int)]) (k2_QcV (.int (r_oh od sz rd n v 0))) 0 0 (fun _ => False) := by
  refine Met.ofW (cc := cX4_onHull) (maxL := 4) (ret := (some .int)) (by decide) rfl ?_
  intro p e s m args below meth c s₁ B hml hv
  obtain ⟨rfl, hP, hK⟩ := hv
  have hx := B.exec
  have hb := B.bytes
  have hr := B.returns
  have hts := atoms_spec (ws := wsX4_onHull) B.pre
  have hown : s.vm.findClass RX4 = some m.cls := findClass_of_methodNamed B.named
  have hlocks := B.notSynchronized
  have hP : va_P (dC, dI) vwCl [(o0, .inr (4, [.int th, .int ns, .ref xb, .ref yb, .int md, .int (nI n), .ref za, .ref ua, .ref wa, .int hz, .ref va])), (za, .inl (cI, 60, .inl (fun j => nI (sz j)))), (ua, .inl (cI, 1200, .inl (fun j => nI (rd j)))), (wa, .inl (cI, 60, .inl (fun j => nI (od j))))] s.heap := hP
  have hl := lv_entry ([.ref o0, .int (nI v)]) (n := 4) (Nat.le_of_ble_eq_true rfl)
  rw [lg_entry_eq]
  generalize (lg_sl ([.ref o0, .int (nI v)]) ++ List.replicate (4 - (lg_sl ([.ref o0, .int (nI v)])).length) Slot.unset).toArray = ls at hl ⊢
  have hl : lv_has ls 4 [(0, .ref o0), (1, .int (nI v))] := hl
  refine lv_iconst (v := nI 0) hx hb dX4_onHull_0 (by decide) ?_
  refine lv_istore_n (lv' := [(2, .int (nI 0)), (0, .ref o0), (1, .int (nI v))]) hx hb dX4_onHull_1 rfl hl (by decide) rfl (fun ls hl => ?_)
  have loopA : ∀ (f : Nat) (d : Nat) (R : Int32) (ls : Array Slot), (d ≤ n) → (n + 1 ≤ d + f) → r_oh od sz rd n v d = R → lv_has ls 4 [(0, .ref o0), (1, .int (nI v)), (2, .int (nI d))] → W p l e (headSpec wsX4_onHull ({ frames := 2, cells := 0, slots := 0, locals := 47 })).room s m ([.ref o0, .int (nI v)] : List Value).toArray below meth c s.heap [] 0 0 (MQ below (k2_QcV (.int R)) ([.ref o0, .int (nI v)] : List Value).toArray s 0 0 (fun _ => False)) (F0 m 2 ls []) := by
    intro f
    induction f with
    | zero =>
      intro d R ls h1 h2
      omega
    | succ f ih_loopA =>
      intro d R ls h1 h2 hF hl
      refine lv_iload_n hx hb dX4_onHull_2 rfl (lv_at hl 2 rfl) ?_
      refine lv_aload_n hx hb dX4_onHull_3 rfl (lv_at hl 0 rfl) ?_
      refine va_get (D := (dC, dI)) (ci := 4) (v := .int (nI n)) (C := RX4) (T := TX4) (N := 11) hx hb hts (by decide +kernel) hown hK hP 0 rfl rfl 5 (by decide) (hts (.fieldLink RX4 65 "CircleCellsModel" "cells" "I") (by decide +kernel)) (fun _ h9 => h9) rfl dX4_onHull_4 ?_
      refine q_icmp_ge (tgt := 70) (by omega) (by omega) hx hb dX4_onHull_7 (by decide) (fun c7 => ?_) (fun c7 => ?_)
      · rw [r_oh, if_neg (by omega)] at hF
        subst hF
        refine lv_iconst (v := (-1)) hx hb dX4_onHull_70 (by decide) ?_
        exact W.iret (v := (-1)) hx hb hr q_ret (fun _ h => nomatch h) dX4_onHull_71
      · rw [r_oh, if_pos c7] at hF
        refine lv_iconst (v := nI 0) hx hb dX4_onHull_10 (by decide) ?_
        refine lv_istore_n (lv' := [(3, .int (nI 0)), (0, .ref o0), (1, .int (nI v)), (2, .int (nI d))]) hx hb dX4_onHull_11 rfl hl (by decide) rfl (fun ls hl => ?_)
        have loopB : ∀ (f : Nat) (i : Nat) (R : Int32) (ls : Array Slot), (i ≤ sz d) → (sz d + 1 ≤ i + f) → (if r_oi od sz rd n v d i = -1 then r_oh od sz rd n v (d + 1) else r_oi od sz rd n v d i) = R → lv_has ls 4 [(0, .ref o0), (1, .int (nI v)), (2, .int (nI d)), (3, .int (nI i))] → W p l e (headSpec wsX4_onHull ({ frames := 2, cells := 0, slots := 0, locals := 47 })).room s m ([.ref o0, .int (nI v)] : List Value).toArray below meth c s.heap [] 0 0 (MQ below (k2_QcV (.int R)) ([.ref o0, .int (nI v)] : List Value).toArray s 0 0 (fun _ => False)) (F0 m 12 ls []) := by
          intro f
          induction f with
          | zero =>
            intro i R ls h3 h4
            omega
          | succ f ih_loopB =>
            intro i R ls h3 h4 hF hl
            refine lv_iload_n hx hb dX4_onHull_12 rfl (lv_at hl 3 rfl) ?_
            refine lv_aload_n hx hb dX4_onHull_13 rfl (lv_at hl 0 rfl) ?_
            refine va_get (D := (dC, dI)) (ci := 4) (v := .ref za) (C := RX4) (T := TX4) (N := 11) hx hb hts (by decide +kernel) hown hK hP 0 rfl rfl 6 (by decide) (hts (.fieldLink RX4 16 "CircleCellsModel" "size" "[I") (by decide +kernel)) (fun _ h9 => h9) rfl dX4_onHull_14 ?_
            refine lv_iload_n hx hb dX4_onHull_17 rfl (lv_at hl 2 rfl) ?_
            refine q_iald hx hb hK hP 1 0 rfl rfl (d) rfl (by omega) (by decide) dX4_onHull_18 ?_
            refine q_icmp_ge (tgt := 64) (by have := lz d; omega) (by have := lz d; omega) hx hb dX4_onHull_19 (by decide) (fun c19 => ?_) (fun c19 => ?_)
            · rw [r_oi, if_neg (show ¬ i < sz d by omega), if_pos rfl] at hF
              refine lv_iinc (v := nI (d + 1)) (lv' := [(2, .int (nI (d + 1))), (0, .ref o0), (1, .int (nI v)), (3, .int (nI i))]) hx hb dX4_onHull_64 hl (k := 2) rfl (by rw [show Int32.ofInt 1 = 1 from rfl]; exact nI_1 _) (by decide) rfl (fun ls hl => ?_)
              refine lv_goto (tgt := 2) hx hb dX4_onHull_67 (by decide) ?_
              exact ih_loopA (d + 1) R ls (by omega) (by omega) hF (lv_sub hl [1, 2, 0] rfl)
            · rw [r_oi, if_pos c19] at hF
              refine lv_aload_n hx hb dX4_onHull_22 rfl (lv_at hl 0 rfl) ?_
              refine va_get (D := (dC, dI)) (ci := 4) (v := .ref ua) (C := RX4) (T := TX4) (N := 11) hx hb hts (by decide +kernel) hown hK hP 0 rfl rfl 7 (by decide) (hts (.fieldLink RX4 19 "CircleCellsModel" "round" "[I") (by decide +kernel)) (fun _ h9 => h9) rfl dX4_onHull_23 ?_
              refine lv_bipush (v := nI 20) hx hb dX4_onHull_26 (by decide) ?_
              refine lv_iload_n hx hb dX4_onHull_28 rfl (lv_at hl 2 rfl) ?_
              refine q_imul hx hb dX4_onHull_29 ?_
              refine lv_iload_n hx hb dX4_onHull_30 rfl (lv_at hl 3 rfl) ?_
              refine q_iadd hx hb dX4_onHull_31 ?_
              refine q_iald hx hb hK hP 2 0 rfl rfl ((20 * d) + i) rfl (by have := lz d; omega) (by decide) dX4_onHull_32 ?_
              refine lv_iload_n hx hb dX4_onHull_33 rfl (lv_at hl 1 rfl) ?_
              refine q_icmp_ne (tgt := 58) (by have := lr (20 * d + i); omega) (by omega) hx hb dX4_onHull_34 (by decide) (fun c34 => ?_) (fun c34 => ?_)
              · rw [if_neg c34] at hF
                refine lv_iinc (v := nI (i + 1)) (lv' := [(3, .int (nI (i + 1))), (0, .ref o0), (1, .int (nI v)), (2, .int (nI d))]) hx hb dX4_onHull_58 hl (k := 3) rfl (by rw [show Int32.ofInt 1 = 1 from rfl]; exact nI_1 _) (by decide) rfl (fun ls hl => ?_)
                refine lv_goto (tgt := 12) hx hb dX4_onHull_61 (by decide) ?_
                exact ih_loopB (i + 1) R ls (by omega) (by omega) hF (lv_sub hl [1, 2, 3, 0] rfl)
              · rw [if_pos c34] at hF
                refine lv_aload_n hx hb dX4_onHull_37 rfl (lv_at hl 0 rfl) ?_
                refine lv_aload_n hx hb dX4_onHull_38 rfl (lv_at hl 0 rfl) ?_
                refine lv_iload_n hx hb dX4_onHull_39 rfl (lv_at hl 2 rfl) ?_
                refine lv_iload_n hx hb dX4_onHull_40 rfl (lv_at hl 3 rfl) ?_
                refine q_cV (As := [.int (nI d), .int (nI i)]) (rest := [.ref o0]) ⟨hx, hb, hml, hown, hts⟩ (c_X4_after l dC dI o0 xb yb za ua wa va cI th ns md (nI n) hz sz rd d i (by omega) (by omega) (lz _)) (cwV 2 hts gX4_onHull_X4_after rfl rfl rfl (by decide +kernel) ⟨Nat.le_of_ble_eq_true rfl, Nat.le_of_ble_eq_true rfl⟩) (q_pV hK hP [0, 1, 2] [0] 4 0 rfl rfl rfl rfl rfl rfl) rfl hl.1 rfl (Nat.le_of_ble_eq_true rfl) ⟨Nat.zero_le _, Nat.zero_le _⟩ dX4_onHull_41 ?_
                refine lv_iload_n hx hb dX4_onHull_44 rfl (lv_at hl 1 rfl) ?_
                refine q_cV (As := [.int (nI (r_after sz rd d i)), .int (nI v)]) (rest := []) ⟨hx, hb, hml, hown, hts⟩ (c_X4_withSide l dC dI o0 xb yb za ua wa va cI th ns md hz od sz rd n (r_after sz rd d i) v (by omega) (lr _) (by omega) lo lz lr) (cwV 2 hts gX4_onHull_X4_withSide rfl rfl rfl (by decide +kernel) ⟨Nat.le_of_ble_eq_true rfl, Nat.le_of_ble_eq_true rfl⟩) (q_pV hK hP [0, 1, 2, 3] [0] 4 0 rfl rfl rfl rfl rfl rfl) rfl hl.1 rfl (Nat.le_of_ble_eq_true rfl) ⟨Nat.zero_le _, Nat.zero_le _⟩ dX4_onHull_45 ?_
                refine lv_if_ge (tgt := 58) hx hb dX4_onHull_48 (by decide) (fun c48 => ?_) (fun c48 => ?_)
                · rw [if_pos c48] at hF
                  refine lv_iinc (v := nI (i + 1)) (lv' := [(3, .int (nI (i + 1))), (0, .ref o0), (1, .int (nI v)), (2, .int (nI d))]) hx hb dX4_onHull_58 hl (k := 3) rfl (by rw [show Int32.ofInt 1 = 1 from rfl]; exact nI_1 _) (by decide) rfl (fun ls hl => ?_)
                  refine lv_goto (tgt := 12) hx hb dX4_onHull_61 (by decide) ?_
                  exact ih_loopB (i + 1) R ls (by omega) (by omega) hF (lv_sub hl [1, 2, 3, 0] rfl)
                · rw [if_neg c48, if_neg (nI_m1 (by have h9 : r_after sz rd d i < 20 := lr _; omega))] at hF
                  subst hF
                  refine lv_aload_n hx hb dX4_onHull_51 rfl (lv_at hl 0 rfl) ?_
                  refine lv_iload_n hx hb dX4_onHull_52 rfl (lv_at hl 2 rfl) ?_
                  refine lv_iload_n hx hb dX4_onHull_53 rfl (lv_at hl 3 rfl) ?_
                  refine q_cV (As := [.int (nI d), .int (nI i)]) (rest := []) ⟨hx, hb, hml, hown, hts⟩ (c_X4_after l dC dI o0 xb yb za ua wa va cI th ns md (nI n) hz sz rd d i (by omega) (by omega) (lz _)) (cwV 2 hts gX4_onHull_X4_after rfl rfl rfl (by decide +kernel) ⟨Nat.le_of_ble_eq_true rfl, Nat.le_of_ble_eq_true rfl⟩) (q_pV hK hP [0, 1, 2] [0] 4 0 rfl rfl rfl rfl rfl rfl) rfl hl.1 rfl (Nat.le_of_ble_eq_true rfl) ⟨Nat.zero_le _, Nat.zero_le _⟩ dX4_onHull_54 ?_
                  exact W.iret (v := nI (r_after sz rd d i)) hx hb hr q_ret (fun _ h => nomatch h) dX4_onHull_57
        exact loopB (sz d + 1) 0 _ ls (by omega) (by omega) hF (lv_sub hl [1, 2, 3, 0] rfl)
  exact loopA (n + 1) 0 _ ls (by omega) (by omega) rfl (lv_sub hl [1, 2, 0] rfl)
end
