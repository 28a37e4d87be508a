section
-- ===== PART A: goes FIRST, ahead of the names: the tables' words, and 'selects' of the private methods out of them =====
/-- a private method of a class that the tables say can be made, by its rows of tables_1 -/
def lw_okq (q : MethodName × Nat) : Prop := (q.1.cls ≠ "java/lang/invoke/MethodHandle" ∧ q.1.cls ≠ "java/lang/invoke/VarHandle") ∧ Cond.instantiable q.1.cls q.2 ∈ tables_1 ∧ Cond.privateMethod q.1 ∈ tables_1 ∧ Cond.instanceMethod q.1 ∈ tables_1
theorem lw_p0 : lw_okq (⟨"CircleCells", "refresh", "()V"⟩, 3) := ⟨⟨by decide +kernel, by decide +kernel⟩, List.mem_of_getElem? (i := 16) (by decide +kernel), List.mem_of_getElem? (i := 127) (by decide +kernel), List.mem_of_getElem? (i := 128) (by decide +kernel)⟩
theorem lw_p1 : lw_okq (⟨"CircleCells$Mosaic", "layLeftOf", "(II)Z"⟩, 8) := ⟨⟨by decide +kernel, by decide +kernel⟩, List.mem_of_getElem? (i := 49) (by decide +kernel), List.mem_of_getElem? (i := 138) (by decide +kernel), List.mem_of_getElem? (i := 139) (by decide +kernel)⟩
theorem lw_p2 : lw_okq (⟨"CircleCells$Mosaic", "powerOf", "(I)J"⟩, 8) := ⟨⟨by decide +kernel, by decide +kernel⟩, List.mem_of_getElem? (i := 49) (by decide +kernel), List.mem_of_getElem? (i := 150) (by decide +kernel), List.mem_of_getElem? (i := 151) (by decide +kernel)⟩
theorem lw_p3 : lw_okq (⟨"CircleCells$Mosaic", "beginsCell", "(II)Z"⟩, 8) := ⟨⟨by decide +kernel, by decide +kernel⟩, List.mem_of_getElem? (i := 49) (by decide +kernel), List.mem_of_getElem? (i := 163) (by decide +kernel), List.mem_of_getElem? (i := 164) (by decide +kernel)⟩
theorem lw_p4 : lw_okq (⟨"CircleCells$Mosaic", "addCell", "(I)V"⟩, 8) := ⟨⟨by decide +kernel, by decide +kernel⟩, List.mem_of_getElem? (i := 49) (by decide +kernel), List.mem_of_getElem? (i := 167) (by decide +kernel), List.mem_of_getElem? (i := 168) (by decide +kernel)⟩
theorem lw_p5 : lw_okq (⟨"CircleCells$Mosaic", "insertRound", "(III)V"⟩, 8) := ⟨⟨by decide +kernel, by decide +kernel⟩, List.mem_of_getElem? (i := 49) (by decide +kernel), List.mem_of_getElem? (i := 171) (by decide +kernel), List.mem_of_getElem? (i := 172) (by decide +kernel)⟩
theorem lw_p6 : lw_okq (⟨"CircleCells$Mosaic", "claimSides", "(I)V"⟩, 8) := ⟨⟨by decide +kernel, by decide +kernel⟩, List.mem_of_getElem? (i := 49) (by decide +kernel), List.mem_of_getElem? (i := 175) (by decide +kernel), List.mem_of_getElem? (i := 176) (by decide +kernel)⟩
theorem lw_p7 : lw_okq (⟨"CircleCells$Mosaic", "siteAfter", "(II)I"⟩, 8) := ⟨⟨by decide +kernel, by decide +kernel⟩, List.mem_of_getElem? (i := 49) (by decide +kernel), List.mem_of_getElem? (i := 187) (by decide +kernel), List.mem_of_getElem? (i := 188) (by decide +kernel)⟩
theorem lw_p8 : lw_okq (⟨"CircleCells$Mosaic", "walkRim", "()V"⟩, 8) := ⟨⟨by decide +kernel, by decide +kernel⟩, List.mem_of_getElem? (i := 49) (by decide +kernel), List.mem_of_getElem? (i := 194) (by decide +kernel), List.mem_of_getElem? (i := 195) (by decide +kernel)⟩
theorem lw_p9 : lw_okq (⟨"CircleCells$Mosaic", "firstOnRim", "()I"⟩, 8) := ⟨⟨by decide +kernel, by decide +kernel⟩, List.mem_of_getElem? (i := 49) (by decide +kernel), List.mem_of_getElem? (i := 198) (by decide +kernel), List.mem_of_getElem? (i := 199) (by decide +kernel)⟩
theorem lw_p10 : lw_okq (⟨"CircleCells$Mosaic", "nextOnRim", "(I)I"⟩, 8) := ⟨⟨by decide +kernel, by decide +kernel⟩, List.mem_of_getElem? (i := 49) (by decide +kernel), List.mem_of_getElem? (i := 202) (by decide +kernel), List.mem_of_getElem? (i := 203) (by decide +kernel)⟩
theorem lw_p11 : lw_okq (⟨"java/lang/Throwable", "fillInStackTrace", "(I)Ljava/lang/Throwable;"⟩, 6) := ⟨⟨by decide +kernel, by decide +kernel⟩, List.mem_of_getElem? (i := 257) (by decide +kernel), List.mem_of_getElem? (i := 255) (by decide +kernel), List.mem_of_getElem? (i := 256) (by decide +kernel)⟩
theorem lw_p12 : lw_okq (⟨"CircleCells", "requireSite", "(I)V"⟩, 3) := ⟨⟨by decide +kernel, by decide +kernel⟩, List.mem_of_getElem? (i := 16) (by decide +kernel), List.mem_of_getElem? (i := 323) (by decide +kernel), List.mem_of_getElem? (i := 324) (by decide +kernel)⟩
theorem lw_p13 : lw_okq (⟨"CircleCells", "requireCell", "(I)V"⟩, 3) := ⟨⟨by decide +kernel, by decide +kernel⟩, List.mem_of_getElem? (i := 16) (by decide +kernel), List.mem_of_getElem? (i := 358) (by decide +kernel), List.mem_of_getElem? (i := 359) (by decide +kernel)⟩
theorem lw_p14 : lw_okq (⟨"CircleCells$Mosaic", "holds", "(III)Z"⟩, 8) := ⟨⟨by decide +kernel, by decide +kernel⟩, List.mem_of_getElem? (i := 49) (by decide +kernel), List.mem_of_getElem? (i := 450) (by decide +kernel), List.mem_of_getElem? (i := 451) (by decide +kernel)⟩
theorem lw_p15 : lw_okq (⟨"CircleCells$Sites", "squareTo", "(III)I"⟩, 3) := ⟨⟨by decide +kernel, by decide +kernel⟩, List.mem_of_getElem? (i := 24) (by decide +kernel), List.mem_of_getElem? (i := 467) (by decide +kernel), List.mem_of_getElem? (i := 468) (by decide +kernel)⟩
def lw_privs_1 : List (MethodName × Nat) := [(⟨"CircleCells", "refresh", "()V"⟩, 3), (⟨"CircleCells$Mosaic", "layLeftOf", "(II)Z"⟩, 8), (⟨"CircleCells$Mosaic", "powerOf", "(I)J"⟩, 8), (⟨"CircleCells$Mosaic", "beginsCell", "(II)Z"⟩, 8), (⟨"CircleCells$Mosaic", "addCell", "(I)V"⟩, 8), (⟨"CircleCells$Mosaic", "insertRound", "(III)V"⟩, 8), (⟨"CircleCells$Mosaic", "claimSides", "(I)V"⟩, 8), (⟨"CircleCells$Mosaic", "siteAfter", "(II)I"⟩, 8), (⟨"CircleCells$Mosaic", "walkRim", "()V"⟩, 8), (⟨"CircleCells$Mosaic", "firstOnRim", "()I"⟩, 8), (⟨"CircleCells$Mosaic", "nextOnRim", "(I)I"⟩, 8), (⟨"java/lang/Throwable", "fillInStackTrace", "(I)Ljava/lang/Throwable;"⟩, 6), (⟨"CircleCells", "requireSite", "(I)V"⟩, 3), (⟨"CircleCells", "requireCell", "(I)V"⟩, 3), (⟨"CircleCells$Mosaic", "holds", "(III)Z"⟩, 8), (⟨"CircleCells$Sites", "squareTo", "(III)I"⟩, 3)]
theorem lw_r1 : ∀ q ∈ lw_privs_1, lw_okq q := List.forall_mem_cons.mpr ⟨lw_p0, List.forall_mem_cons.mpr ⟨lw_p1, List.forall_mem_cons.mpr ⟨lw_p2, List.forall_mem_cons.mpr ⟨lw_p3, List.forall_mem_cons.mpr ⟨lw_p4, List.forall_mem_cons.mpr ⟨lw_p5, List.forall_mem_cons.mpr ⟨lw_p6, List.forall_mem_cons.mpr ⟨lw_p7, List.forall_mem_cons.mpr ⟨lw_p8, List.forall_mem_cons.mpr ⟨lw_p9, List.forall_mem_cons.mpr ⟨lw_p10, List.forall_mem_cons.mpr ⟨lw_p11, List.forall_mem_cons.mpr ⟨lw_p12, List.forall_mem_cons.mpr ⟨lw_p13, List.forall_mem_cons.mpr ⟨lw_p14, List.forall_mem_cons.mpr ⟨lw_p15, fun _ h => absurd h List.not_mem_nil⟩⟩⟩⟩⟩⟩⟩⟩⟩⟩⟩⟩⟩⟩⟩⟩
theorem lw_p16 : lw_okq (⟨"CircleCellsModel", "isTaken", "(III)Z"⟩, 11) := ⟨⟨by decide +kernel, by decide +kernel⟩, List.mem_of_getElem? (i := 471) (by decide +kernel), List.mem_of_getElem? (i := 522) (by decide +kernel), List.mem_of_getElem? (i := 523) (by decide +kernel)⟩
theorem lw_p17 : lw_okq (⟨"CircleCellsModel", "throwing", "(ZZ)Z"⟩, 11) := ⟨⟨by decide +kernel, by decide +kernel⟩, List.mem_of_getElem? (i := 471) (by decide +kernel), List.mem_of_getElem? (i := 526) (by decide +kernel), List.mem_of_getElem? (i := 527) (by decide +kernel)⟩
theorem lw_p18 : lw_okq (⟨"CircleCellsModel", "make", "()V"⟩, 11) := ⟨⟨by decide +kernel, by decide +kernel⟩, List.mem_of_getElem? (i := 471) (by decide +kernel), List.mem_of_getElem? (i := 553) (by decide +kernel), List.mem_of_getElem? (i := 554) (by decide +kernel)⟩
theorem lw_p19 : lw_okq (⟨"CircleCellsModel", "turn", "(IIII)J"⟩, 11) := ⟨⟨by decide +kernel, by decide +kernel⟩, List.mem_of_getElem? (i := 471) (by decide +kernel), List.mem_of_getElem? (i := 557) (by decide +kernel), List.mem_of_getElem? (i := 558) (by decide +kernel)⟩
theorem lw_p20 : lw_okq (⟨"CircleCellsModel", "onCircle", "(III)I"⟩, 11) := ⟨⟨by decide +kernel, by decide +kernel⟩, List.mem_of_getElem? (i := 471) (by decide +kernel), List.mem_of_getElem? (i := 561) (by decide +kernel), List.mem_of_getElem? (i := 562) (by decide +kernel)⟩
theorem lw_p21 : lw_okq (⟨"CircleCellsModel", "power", "(IIII)J"⟩, 11) := ⟨⟨by decide +kernel, by decide +kernel⟩, List.mem_of_getElem? (i := 471) (by decide +kernel), List.mem_of_getElem? (i := 565) (by decide +kernel), List.mem_of_getElem? (i := 566) (by decide +kernel)⟩
theorem lw_p22 : lw_okq (⟨"CircleCellsModel", "square", "(II)J"⟩, 11) := ⟨⟨by decide +kernel, by decide +kernel⟩, List.mem_of_getElem? (i := 471) (by decide +kernel), List.mem_of_getElem? (i := 569) (by decide +kernel), List.mem_of_getElem? (i := 570) (by decide +kernel)⟩
theorem lw_p23 : lw_okq (⟨"CircleCellsModel", "add", "(II)V"⟩, 11) := ⟨⟨by decide +kernel, by decide +kernel⟩, List.mem_of_getElem? (i := 471) (by decide +kernel), List.mem_of_getElem? (i := 573) (by decide +kernel), List.mem_of_getElem? (i := 574) (by decide +kernel)⟩
theorem lw_p24 : lw_okq (⟨"CircleCellsModel", "behind", "(II)I"⟩, 11) := ⟨⟨by decide +kernel, by decide +kernel⟩, List.mem_of_getElem? (i := 471) (by decide +kernel), List.mem_of_getElem? (i := 577) (by decide +kernel), List.mem_of_getElem? (i := 578) (by decide +kernel)⟩
theorem lw_p25 : lw_okq (⟨"CircleCellsModel", "isBefore", "(II)Z"⟩, 11) := ⟨⟨by decide +kernel, by decide +kernel⟩, List.mem_of_getElem? (i := 471) (by decide +kernel), List.mem_of_getElem? (i := 581) (by decide +kernel), List.mem_of_getElem? (i := 582) (by decide +kernel)⟩
theorem lw_p26 : lw_okq (⟨"CircleCellsModel", "surround", "()V"⟩, 11) := ⟨⟨by decide +kernel, by decide +kernel⟩, List.mem_of_getElem? (i := 471) (by decide +kernel), List.mem_of_getElem? (i := 585) (by decide +kernel), List.mem_of_getElem? (i := 586) (by decide +kernel)⟩
theorem lw_p27 : lw_okq (⟨"CircleCellsModel", "onHull", "(I)I"⟩, 11) := ⟨⟨by decide +kernel, by decide +kernel⟩, List.mem_of_getElem? (i := 471) (by decide +kernel), List.mem_of_getElem? (i := 589) (by decide +kernel), List.mem_of_getElem? (i := 590) (by decide +kernel)⟩
theorem lw_p28 : lw_okq (⟨"CircleCellsModel", "after", "(II)I"⟩, 11) := ⟨⟨by decide +kernel, by decide +kernel⟩, List.mem_of_getElem? (i := 471) (by decide +kernel), List.mem_of_getElem? (i := 593) (by decide +kernel), List.mem_of_getElem? (i := 594) (by decide +kernel)⟩
theorem lw_p29 : lw_okq (⟨"CircleCellsModel", "withSide", "(II)I"⟩, 11) := ⟨⟨by decide +kernel, by decide +kernel⟩, List.mem_of_getElem? (i := 471) (by decide +kernel), List.mem_of_getElem? (i := 597) (by decide +kernel), List.mem_of_getElem? (i := 598) (by decide +kernel)⟩
def lw_privs_2 : List (MethodName × Nat) := [(⟨"CircleCellsModel", "isTaken", "(III)Z"⟩, 11), (⟨"CircleCellsModel", "throwing", "(ZZ)Z"⟩, 11), (⟨"CircleCellsModel", "make", "()V"⟩, 11), (⟨"CircleCellsModel", "turn", "(IIII)J"⟩, 11), (⟨"CircleCellsModel", "onCircle", "(III)I"⟩, 11), (⟨"CircleCellsModel", "power", "(IIII)J"⟩, 11), (⟨"CircleCellsModel", "square", "(II)J"⟩, 11), (⟨"CircleCellsModel", "add", "(II)V"⟩, 11), (⟨"CircleCellsModel", "behind", "(II)I"⟩, 11), (⟨"CircleCellsModel", "isBefore", "(II)Z"⟩, 11), (⟨"CircleCellsModel", "surround", "()V"⟩, 11), (⟨"CircleCellsModel", "onHull", "(I)I"⟩, 11), (⟨"CircleCellsModel", "after", "(II)I"⟩, 11), (⟨"CircleCellsModel", "withSide", "(II)I"⟩, 11)]
theorem lw_r2 : ∀ q ∈ lw_privs_2, lw_okq q := List.forall_mem_cons.mpr ⟨lw_p16, List.forall_mem_cons.mpr ⟨lw_p17, List.forall_mem_cons.mpr ⟨lw_p18, List.forall_mem_cons.mpr ⟨lw_p19, List.forall_mem_cons.mpr ⟨lw_p20, List.forall_mem_cons.mpr ⟨lw_p21, List.forall_mem_cons.mpr ⟨lw_p22, List.forall_mem_cons.mpr ⟨lw_p23, List.forall_mem_cons.mpr ⟨lw_p24, List.forall_mem_cons.mpr ⟨lw_p25, List.forall_mem_cons.mpr ⟨lw_p26, List.forall_mem_cons.mpr ⟨lw_p27, List.forall_mem_cons.mpr ⟨lw_p28, List.forall_mem_cons.mpr ⟨lw_p29, fun _ h => absurd h List.not_mem_nil⟩⟩⟩⟩⟩⟩⟩⟩⟩⟩⟩⟩⟩⟩
def lw_privs : List (MethodName × Nat) := lw_privs_1 ++ (lw_privs_2)
def lw_tbl : List Cond := k2_sels lw_privs ++ tables_1
theorem lw_privs_ok : ∀ q ∈ lw_privs, lw_okq q := by
  show ∀ q ∈ lw_privs_1 ++ (lw_privs_2), lw_okq q
  exact List.forall_mem_append.mpr ⟨lw_r1, lw_r2⟩
end
section
/-! ===== BEGIN words of one list among another's, by their places ===== -/
theorem goodIn_r {big : List Cond} (ws : List Cond) (ps : List Nat) (hp : ws = ps.filterMap (fun i => big[i]?)) (h : ws.all goodWord = true) : GoodIn big ws := by
  intro w hw
  have h1 := List.all_eq_true.mp h w hw
  rw [hp] at hw
  obtain ⟨i, -, hi⟩ := List.mem_filterMap.mp hw
  have hm : w ∈ big := by first | exact List.mem_of_getElem? hi | exact List.getElem?_mem hi
  exact ⟨hm, good_of_word h1⟩
theorem goodIn_app {big a b : List Cond} (ha : GoodIn big a) (hb : GoodIn big b) : GoodIn big (a ++ b) := fun w h => (List.mem_append.mp h).elim (ha w) (hb w)
theorem goodIn_ca {big a b : List Cond} {c : Cond} (ha : GoodIn big (c :: a)) (hb : GoodIn big b) : GoodIn big (c :: (a ++ b)) := fun w h => (List.mem_cons.mp h).elim (fun e => ha w (List.mem_cons.mpr (Or.inl e))) (fun h => (List.mem_append.mp h).elim (fun h => ha w (List.mem_cons.mpr (Or.inr h))) (hb w))
theorem goodIn_sub {big ws : List Cond} (hm : ∀ w ∈ ws, w ∈ big) (h : ws.all goodWord = true) : GoodIn big ws := fun w hw => ⟨hm w hw, good_of_word (List.all_eq_true.mp h w hw)⟩
/-! ===== END ===== -/

/-! ===== BEGIN exceptions that leave a method, and their catching by the caller (launches without stack traces) ===== -/
section VXA
/-! The laws vx_back, vx_callV, vx_callS, vx_callSW, vx_throw0, vx_throwS follow proofs of the library, with one case more: JvmDerived/Free/Laws.lean (Back.of_free), Shelf42/LK1.lean (callV, callS), Shelf/KitTraced.lean (throwNew0V, throwNewS). -/
/-- where a method has thrown q: the class by its name, the cell, what was written, the world -/
def vx_T (XC : String → State → State → Prop) (st : State) (q : Addr) (t : State) (mc ms : Nat) (free : Addr → Prop) : Prop :=
  ∃ (E : String) (ce : Cell) (L : List Loc), XC E st t ∧ t.heap[q]? = some ce ∧ ce.vm = .none ∧ st.vm.findClass E = some ce.cls ∧ st.WarmedH t.vm ∧ st.sameButNew ({ t with vm := st.vm } : State) L mc ms ∧ ∀ z ∈ L, free z.base
def vx_Q (Qc : Array Value → State → Outcome → State → Prop) (XC : String → State → State → Prop) (mc ms : Nat) (free : Addr → Prop) : Array Value → State → Outcome → State → Prop := fun a st o t =>
  (Qc a st o t ∧ ∃ L, FrameEnd st o t L mc ms ∧ ∀ q ∈ L, free q.base) ∨ ∃ q, o = .threw q ∧ vx_T XC st q t mc ms free
/-- a callee that returns or throws -/
def vx_Met (l : Launch) (y : MethodName) (ws : List Cond) (rm : Room) (Pc : Array Value → State → Prop) (Qc : Array Value → State → Outcome → State → Prop) (XC : String → State → State → Prop) (mc ms : Nat) (free : Addr → Prop) : Prop :=
  MetFree l y (headSpec ws rm) Pc (fun _ _ _ _ _ => True) (vx_Q Qc XC mc ms free)
def vx_Post (XC : String → State → State → Prop) (mc ms : Nat) (free : Addr → Prop) : Pt → Array Value → Addr → Pt → Prop := fun A a q B =>
  ∃ (g : JFrame) (mk : MethodId) (t : State) (L : List Loc) (E : String) (ce : Cell), B.U.heap = t.heap ∧ B.U.vm = t.vm ∧ XC E (A.U.calling g mk a) t ∧ t.heap[q]? = some ce ∧ ce.vm = .none ∧ A.U.vm.findClass E = some ce.cls ∧ B.locs = A.locs ++ L ∧ (∀ z ∈ L, free z.base) ∧ B.cells = A.cells + mc ∧ B.slots = A.slots + ms
def vx_Back (l : Launch) (R : Room) (p : Program) (e : Env) (below : List Frame) (s : State) (sargs : Array Value) (y : MethodName) (len W9 : Nat)
    (Pre : Pt → Array Value → Prop) (Post : Pt → Array Value → Option Value → Pt → Prop) (PostX : Pt → Array Value → Addr → Pt → Prop) : Prop :=
  ∀ (m : MethodId) (meth : Method) (c : Code) (A : Pt) (g : JFrame) (ig : Instr) (mk : MethodId) (a : Array Value),
    Stand p l e R s m sargs below meth c A.U A.locs A.cells A.slots → g.method = m → g.locals.size = c.maxLocals → decode c.code g.pc = .ok (ig, len) →
    2 * g.monitorRoom + (g.stack.map fun v => v.category).sum ≤ W9 → A.U.methodNamed? y = some mk → Pre A a →
    (∃ (v : Option Value) (B : Pt), Stand p l e R s m sargs below meth c B.U B.locs B.cells B.slots ∧ Post A a v B ∧
      Steps p.tables e below (doInvoke e (A.U.setTop g) [] mk a).1 (B.U.setTop { g with pc := g.pc + len, stack := v.toList ++ g.stack })) ∨
    (∃ (q : Addr) (B : Pt), Stand p l e R s m sargs below meth c B.U B.locs B.cells B.slots ∧ PostX A a q B ∧
      Steps p.tables e below (doInvoke e (A.U.setTop g) [] mk a).1 ((B.U.setTop g).pushFrame (.throwing q)))
section Payer
variable {l : Launch} {R : Room} {p : Program} {e : Env} {below : List Frame} {s : State} {sargs : Array Value} {y : MethodName} {len W9 : Nat}
theorem vx_back {ws : List Cond} {rm : Room} {Pc : Array Value → State → Prop} {Qc : Array Value → State → Outcome → State → Prop} {XC : String → State → State → Prop} {mc ms : Nat} {free : Addr → Prop} {bytes : ByteArray} {maxL : Nat} {ret : Option FieldType}
    (hM : vx_Met l y ws rm Pc Qc XC mc ms free) (hblind : FrameBlind Pc) (hrc : rm.cells = mc) (hrs : rm.slots = ms)
    (hframes : rm.frames + 1 ≤ R.frames) (hlocals : W9 + (maxL + 11) + rm.locals ≤ R.locals)
    (hws : ∀ w ∈ ws, ∀ a' U, s.WarmedH U.vm → w.before a' U = true) (hcode : Cond.code y bytes maxL ret ∈ ws) (hinit : ∀ a' U, s.WarmedH U.vm → (Cond.initialized y.cls).before a' U = true) :
    vx_Back l R p e below s sargs y len W9 (PreOf R mc ms Pc) (PostOf Qc mc ms free) (vx_Post XC mc ms free) := by
  intro m meth c A g ig mk a X hg hsize hdg hW hn hp
  have h1 : (headSpec ws rm).pre.before a A.U = true := atoms_intro fun w hw => hws w hw _ _ X.warmed
  have h2 : (Cond.code y bytes maxL ret).before a A.U = true := hws _ hcode _ _ X.warmed
  have h3 : (Cond.initialized y.cls).before a A.U = true := hinit _ _ X.warmed
  have h4 : A.cells + (headSpec ws rm).room.cells ≤ R.cells := by rw [show (headSpec ws rm).room.cells = mc from hrc]; exact hp.1
  have h5 : A.slots + (headSpec ws rm).room.slots ≤ R.slots := by rw [show (headSpec ws rm).room.slots = ms from hrs]; exact hp.2.1
  have hPc : Pc a (A.U.calling g mk a) := hblind _ _ _ _ hp.2.2
  obtain ⟨U, Ls, c0, s0⟩ := A
  dsimp only [Pt.U, Pt.locs, Pt.cells, Pt.slots] at h1 h2 h3 h4 h5 X hn hPc ⊢
  obtain ⟨methY, cY, hmY, hcY, -, hlY, -, -, -, -⟩ := Cond.code_spec hn h2
  obtain ⟨kY, hkY, -⟩ := className_of_methodNamed hn
  have hinitY : kY.init = .initialized := Cond.initialized_spec (findClass_of_methodNamed hn) hkY h3
  have h : At U g.method c below := by rw [hg]; exact X.here
  have hlocals9 : W9 + (maxL + 11) + (headSpec ws rm).room.locals ≤ R.locals := hlocals
  have happ : (headSpec ws rm).appliesLoose y e.platform (U.calling g mk a) = true :=
    Spec.appliesLoose_calling (g := g) h hdg hn hkY hinitY
      (X.room_calling (g := g) (R' := (headSpec ws rm).room) hsize hmY hcY hframes (by rw [hlY]; omega) h4 h5) h1
  obtain ⟨mid, hmid⟩ := h.above
  have hfr : (U.setTop g).frames = (.java g :: mid) ++ below := by rw [State.frames_setTop' g h.top, hmid]; rfl
  obtain ⟨o, s₂, hsteps, -, hend, hq⟩ := Steps.callFree hM p X.admits X.cas X.clock (acts := []) hfr happ hPc trivial
  have hq' : vx_Q Qc XC mc ms free a (U.calling g mk a) o s₂ := hq
  rw [State.frames_setTop' g h.top] at hend
  obtain ⟨g₀, hg0⟩ := Option.isSome_iff_exists.mp h.top
  obtain ⟨r, hr⟩ := State.topJava?_eq_some.mp hg0
  have hr' : (({ U with heap := s₂.heap, slotsUsed := s₂.slotsUsed } : State).setVm s₂.vm).frames = .java g₀ :: r := hr
  rcases hq' with ⟨hqc, L, hfe, hL⟩ | ⟨q, rfl, E, ce, L, hx, hce, hcv, hcl, hW₂, hsm, hL⟩
  · obtain ⟨⟨v, rfl⟩, hW₂, e2, q2, q3, q4, q5, q6⟩ := id hfe
    have e3 : s₂ = ({ (U.calling g mk a).setFrames s₂.frames with heap := s₂.heap, slotsUsed := s₂.slotsUsed } : State).setVm s₂.vm := by
      have : s₂ = ({ s₂ with vm := (U.calling g mk a).vm } : State).setVm s₂.vm := rfl
      rw [e2] at this
      exact this
    obtain ⟨c₂, i₂, len₂, hc₂, hd₂, hf₂⟩ := hend
    have hW' : U.WarmedH s₂.vm := hW₂
    have hcc : c₂ = c := by
      have h1 : s₂.code? g.method = U.code? g.method := by
        rw [State.code?_eq, State.code?_eq, hW'.alike.method?]
      exact Option.some.inj (hc₂.symm.trans (h1.trans h.code))
    subst hcc
    have hlen : len₂ = len := by rw [hdg] at hd₂; cases hd₂; rfl
    subst hlen
    have hs₂ : s₂ = (({ U with heap := s₂.heap, slotsUsed := s₂.slotsUsed } : State).setVm s₂.vm).setTop { g with pc := g.pc + len₂, stack := v.toList ++ g.stack } := by
      refine e3.trans ?_
      rw [hf₂, State.calling_eq h.top, State.setFrames_setFrames, State.setTop_of_frames _ hr', hr]
      rfl
    have hsame : U.sameButNew ({ U with heap := s₂.heap, slotsUsed := s₂.slotsUsed } : State) L mc ms := by
      refine ⟨?_, q2, q3, q4, q5, q6⟩
      obtain ⟨t, ht, -⟩ := State.frames_cons hr
      show ({ U with heap := s₂.heap, slotsUsed := s₂.slotsUsed } : State) = { U.setFrames U.frames with heap := s₂.heap, slotsUsed := s₂.slotsUsed }
      rw [State.setFrames_self ht]
    subst hg
    refine Or.inl ⟨v, ⟨(({ U with heap := s₂.heap, slotsUsed := s₂.slotsUsed } : State).setVm s₂.vm), Ls ++ L, c0 + mc, s0 + ms⟩,
      ⟨X.admits, X.cas, X.clock, X.frames, X.room, X.hears, X.method, X.code, (X.here.setHeapUsed s₂.heap s₂.slotsUsed).setVm hW'.alike, X.tail, State.WarmedH.trans X.warmed hW', X.limits, X.bytes, X.same.trans (hsame.setVm s.vm)⟩,
      ⟨g, mk, s₂, L, rfl, rfl, hqc, rfl, hL, rfl, rfl⟩, ?_⟩
    show Steps p.tables e below _ ((({ U with heap := s₂.heap, slotsUsed := s₂.slotsUsed } : State).setVm s₂.vm).setTop { g with pc := g.pc + len₂, stack := v.toList ++ g.stack })
    rw [← hs₂]
    exact hsteps
  · obtain ⟨e2, q2, q3, q4, q5, q6⟩ := id hsm
    have e3 : s₂ = ({ (U.calling g mk a).setFrames s₂.frames with heap := s₂.heap, slotsUsed := s₂.slotsUsed } : State).setVm s₂.vm := by
      have : s₂ = ({ s₂ with vm := (U.calling g mk a).vm } : State).setVm s₂.vm := rfl
      rw [e2] at this
      exact this
    have hf₂ : s₂.frames = .throwing q :: .java g :: U.frames.tail := hend
    have hW' : U.WarmedH s₂.vm := hW₂
    have hs₂ : s₂ = ((({ U with heap := s₂.heap, slotsUsed := s₂.slotsUsed } : State).setVm s₂.vm).setTop g).pushFrame (.throwing q) := by
      refine e3.trans ?_
      rw [hf₂, State.calling_eq h.top, State.setFrames_setFrames, State.pushFrame, State.frames_setTop _ hr', State.setTop_of_frames _ hr', State.setFrames_setFrames, hr]
      rfl
    have hsame : U.sameButNew ({ U with heap := s₂.heap, slotsUsed := s₂.slotsUsed } : State) L mc ms := by
      refine ⟨?_, q2, q3, q4, q5, q6⟩
      obtain ⟨t, ht, -⟩ := State.frames_cons hr
      show ({ U with heap := s₂.heap, slotsUsed := s₂.slotsUsed } : State) = { U.setFrames U.frames with heap := s₂.heap, slotsUsed := s₂.slotsUsed }
      rw [State.setFrames_self ht]
    subst hg
    refine Or.inr ⟨q, ⟨(({ U with heap := s₂.heap, slotsUsed := s₂.slotsUsed } : State).setVm s₂.vm), Ls ++ L, c0 + mc, s0 + ms⟩,
      ⟨X.admits, X.cas, X.clock, X.frames, X.room, X.hears, X.method, X.code, (X.here.setHeapUsed s₂.heap s₂.slotsUsed).setVm hW'.alike, X.tail, State.WarmedH.trans X.warmed hW', X.limits, X.bytes, X.same.trans (hsame.setVm s.vm)⟩,
      ⟨g, mk, s₂, L, E, ce, rfl, rfl, hx, hce, hcv, hcl, rfl, hL, rfl, rfl⟩, ?_⟩
    show Steps p.tables e below _ (((({ U with heap := s₂.heap, slotsUsed := s₂.slotsUsed } : State).setVm s₂.vm).setTop g).pushFrame (.throwing q))
    rw [← hs₂]
    exact hsteps
end Payer
section Calls
variable {p : Program} {l : Launch} {e : Env} {R : Room} {s : State} {m : MethodId} {args : Array Value} {below : List Frame} {meth : Method} {c : Code} {T : State} {locs : List Loc} {cells slots : Nat}
theorem vx_callV (X : Stand p l e R s m args below meth c T locs cells slots) (hexec : p.tables.exec = Jvm.exec) {own C : String} {index : Nat} {y : MethodName} {bytes : ByteArray} {maxL : Nat} {ret : Option FieldType}
    (hown : s.vm.findClass own = some m.cls) (hlink : (Cond.methodLink own index y).before args s = true) (hinst : (Cond.instanceMethod y).before args s = true) (hsel : (Cond.selects C y y).before args s = true)
    (hcode : (Cond.code y bytes maxL ret).before args s = true) (hy : y.cls ≠ "java/lang/invoke/MethodHandle" ∧ y.cls ≠ "java/lang/invoke/VarHandle")
    {W9 : Nat} {Pre : Pt → Array Value → Prop} {Post : Pt → Array Value → Option Value → Pt → Prop} {PostX : Pt → Array Value → Addr → Pt → Prop} (hK : vx_Back l R p e below s args y 3 W9 Pre Post PostX)
    {b : Addr} {cellB : Cell} (hcell : T.heap[b]? = some cellB) (hobj : cellB.vm.isStatics = false) (hcls : s.vm.findClass C = some cellB.cls)
    {g : JFrame} (hg : g.method = m) (hsize : g.locals.size = c.maxLocals) {argsL rest : List Value} (hlen : ∀ sig, parseMethodDescriptor y.desc = some sig → argsL.length = sig.parameters.length)
    (hstack : g.stack = argsL.reverse ++ .ref b :: rest) (hW : 2 * g.monitorRoom + (rest.map fun v => v.category).sum ≤ W9) (hdg : decode c.code g.pc = .ok (.invokevirtual index, 3))
    (hpre : ∀ vm₁, s.WarmedH vm₁ → Pre ⟨T.setVm vm₁, locs, cells, slots⟩ (Value.ref b :: argsL).toArray) :
    (∃ (v : Option Value) (vm₁ : Vm) (B : Pt), s.WarmedH vm₁ ∧ Stand p l e R s m args below meth c B.U B.locs B.cells B.slots ∧ Post ⟨T.setVm vm₁, locs, cells, slots⟩ (Value.ref b :: argsL).toArray v B ∧
      ∀ target, Steps p.tables e below (B.U.setTop { g with pc := g.pc + 3, stack := v.toList ++ rest }) target → Steps p.tables e below (T.setTop g) target) ∨
    (∃ (q : Addr) (vm₁ : Vm) (B : Pt), s.WarmedH vm₁ ∧ Stand p l e R s m args below meth c B.U B.locs B.cells B.slots ∧ PostX ⟨T.setVm vm₁, locs, cells, slots⟩ (Value.ref b :: argsL).toArray q B ∧
      Steps p.tables e below (T.setTop g) ((B.U.setTop { g with stack := rest }).pushFrame (.throwing q))) := by
  obtain ⟨mk, methM, hnamed, hmethM, hstM, habM⟩ := Cond.instanceMethod_spec hinst
  obtain ⟨methM', cM, hmethM', -, -, -, -, -, -, hsigM⟩ := Cond.code_spec hnamed hcode
  cases hmethM.symm.trans hmethM'
  obtain ⟨c2, r2, m2, q1, q2, q3, q4, kP, hkP, hkPi⟩ := Cond.selects_spec hsel
  cases hcls.symm.trans q1
  cases (State.methodFound?_of_named hnamed hy).symm.trans q2
  cases hnamed.symm.trans q3
  have hselP : selectMethod e.platform s.vm cellB.cls mk = .method mk := by rw [Launch.admits_selectMethod X.admits]; exact q4
  obtain ⟨vm₁, X₁, hstep₁⟩ := X.invokevirtual hexec hown hlink hnamed hmethM hstM hkP hkPi hy (a := b) (cell := cellB) hcell
    (fun z h => by rw [h] at hobj; cases hobj) hselP hmethM habM hkP hkPi (g := g) hg (argsL := argsL) (rest := rest) (hlen _ hsigM) hstack hdg
  rcases hK m meth c ⟨T.setVm vm₁, locs, cells, slots⟩ { g with stack := rest } (.invokevirtual index) mk (Value.ref b :: argsL).toArray X₁ hg hsize hdg hW (X₁.named hnamed) (hpre vm₁ X₁.warmed) with ⟨v, B, X', hpost, hsteps⟩ | ⟨q, B, X', hpost, hsteps⟩
  · exact Or.inl ⟨v, vm₁, B, X₁.warmed, X', hpost, fun target h => hstep₁ _ fun acts => by rw [doInvoke_state]; exact hsteps.trans h⟩
  · exact Or.inr ⟨q, vm₁, B, X₁.warmed, X', hpost, hstep₁ _ fun acts => by rw [doInvoke_state]; exact hsteps⟩
theorem vx_callS (X : Stand p l e R s m args below meth c T locs cells slots) (hexec : p.tables.exec = Jvm.exec) {own : String} {index : Nat} {y : MethodName} {bytes : ByteArray} {maxL : Nat} {ret : Option FieldType}
    (hown : s.vm.findClass own = some m.cls) (hlink : (Cond.methodLink own index y).before args s = true) (hstat : (Cond.static y).before args s = true) (hinit : (Cond.initialized y.cls).before args s = true)
    (hcode : (Cond.code y bytes maxL ret).before args s = true) (hy : y.cls ≠ "java/lang/invoke/MethodHandle" ∧ y.cls ≠ "java/lang/invoke/VarHandle")
    {W9 : Nat} {Pre : Pt → Array Value → Prop} {Post : Pt → Array Value → Option Value → Pt → Prop} {PostX : Pt → Array Value → Addr → Pt → Prop} (hK : vx_Back l R p e below s args y 3 W9 Pre Post PostX)
    {g : JFrame} (hg : g.method = m) (hsize : g.locals.size = c.maxLocals) {argsL rest : List Value} (hlen : ∀ sig, parseMethodDescriptor y.desc = some sig → argsL.length = sig.parameters.length)
    (hstack : g.stack = argsL.reverse ++ rest) (hW : 2 * g.monitorRoom + (rest.map fun v => v.category).sum ≤ W9) (hdg : decode c.code g.pc = .ok (.invokestatic index, 3))
    (hpre : ∀ vm₁, s.WarmedH vm₁ → Pre ⟨T.setVm vm₁, locs, cells, slots⟩ argsL.toArray) :
    (∃ (v : Option Value) (vm₁ : Vm) (B : Pt), s.WarmedH vm₁ ∧ Stand p l e R s m args below meth c B.U B.locs B.cells B.slots ∧ Post ⟨T.setVm vm₁, locs, cells, slots⟩ argsL.toArray v B ∧
      ∀ target, Steps p.tables e below (B.U.setTop { g with pc := g.pc + 3, stack := v.toList ++ rest }) target → Steps p.tables e below (T.setTop g) target) ∨
    (∃ (q : Addr) (vm₁ : Vm) (B : Pt), s.WarmedH vm₁ ∧ Stand p l e R s m args below meth c B.U B.locs B.cells B.slots ∧ PostX ⟨T.setVm vm₁, locs, cells, slots⟩ argsL.toArray q B ∧
      Steps p.tables e below (T.setTop g) ((B.U.setTop { g with stack := rest }).pushFrame (.throwing q))) := by
  obtain ⟨mk, hnamed⟩ := Cond.code_named hcode
  obtain ⟨methM, cM, hmethM, -, -, -, -, -, -, hsigM⟩ := Cond.code_spec hnamed hcode
  have hstatic : methM.isStatic = true := Cond.static_spec hnamed hmethM hstat
  obtain ⟨kP, hkP, -⟩ := className_of_methodNamed hnamed
  have hinitP : kP.init = .initialized := Cond.initialized_spec (findClass_of_methodNamed hnamed) hkP hinit
  obtain ⟨vm₁, X₁, hstep₁⟩ := X.invokestatic hexec hown hlink hnamed hmethM hstatic hkP hinitP hy (g := g) hg (argsL := argsL) (rest := rest) (hlen _ hsigM) hstack hdg
  rcases hK m meth c ⟨T.setVm vm₁, locs, cells, slots⟩ { g with stack := rest } (.invokestatic index) mk argsL.toArray X₁ hg hsize hdg hW (X₁.named hnamed) (hpre vm₁ X₁.warmed) with ⟨v, B, X', hpost, hsteps⟩ | ⟨q, B, X', hpost, hsteps⟩
  · exact Or.inl ⟨v, vm₁, B, X₁.warmed, X', hpost, fun target h => hstep₁ _ fun acts => by rw [doInvoke_state]; exact hsteps.trans h⟩
  · exact Or.inr ⟨q, vm₁, B, X₁.warmed, X', hpost, hstep₁ _ fun acts => by rw [doInvoke_state]; exact hsteps⟩
end Calls
theorem vx_cls {s : State} {T : State} {vm₁ : Vm} {E : String} {k : ClassId} (hW : s.WarmedH vm₁) (h : (T.setVm vm₁).vm.findClass E = some k) : s.vm.findClass E = some k := by
  have h1 : vm₁.findClass E = some k := h
  rw [hW.alike.findClass] at h1
  exact h1
/-- the method's frame g, with q thrown over it -/
def vx_W (p : Program) (l : Launch) (e : Env) (R : Room) (s : State) (m : MethodId) (args : Array Value) (below : List Frame) (meth : Method) (c : Code) (H : Heap) (locs : List Loc) (cells slots : Nat) (Q : State → Prop) (g : JFrame) (q : Addr) : Prop :=
  ∀ T : State, T.heap = H → Stand p l e R s m args below meth c T locs cells slots → ∃ t, Steps p.tables e below ((T.setTop g).pushFrame (.throwing q)) t ∧ Q t
def vx_Run (p : Program) (l : Launch) (e : Env) (R : Room) (s : State) (m : MethodId) (args : Array Value) (below : List Frame) (meth : Method) (c : Code) (H : Heap) (locs : List Loc) (cells slots mc ms : Nat) (g : JFrame) (rest : List Value) (Qa : State → Outcome → State → Prop) (XC : String → State → State → Prop) (free : Addr → Prop) : Prop :=
  ∀ T : State, T.heap = H → Stand p l e R s m args below meth c T locs cells slots →
    (∃ (v : Option Value) (st₀ t T' : State) (L : List Loc), st₀.heap = H ∧ Stand p l e R s m args below meth c T' (locs ++ L) (cells + mc) (slots + ms) ∧ (∀ q ∈ L, free q.base) ∧ T'.heap = t.heap ∧ T'.vm = t.vm ∧ Qa st₀ (.returned v) t ∧
      Goes p e below T g T' { g with pc := g.pc + 3, stack := v.toList ++ rest }) ∨
    (∃ (q : Addr) (st₀ t T' : State) (L : List Loc) (E : String) (ce : Cell), st₀.heap = H ∧ Stand p l e R s m args below meth c T' (locs ++ L) (cells + mc) (slots + ms) ∧ (∀ z ∈ L, free z.base) ∧ T'.heap = t.heap ∧ T'.vm = t.vm ∧ XC E st₀ t ∧ t.heap[q]? = some ce ∧ ce.vm = .none ∧ s.vm.findClass E = some ce.cls ∧
      Steps p.tables e below (T.setTop g) ((T'.setTop { g with stack := rest }).pushFrame (.throwing q)))
def vx_X {S : Type} (px : S → Prop) (B : String → S → State → Prop) (A : Nat → Prop) : String → State → State → Prop := fun E st t => ∃ u : S, px u ∧ B E u t ∧ va_F A st t
section Runs
variable {p : Program} {l : Launch} {e : Env} {R : Room} {s : State} {m : MethodId} {args : Array Value} {below : List Frame} {meth : Method} {c : Code} {H : Heap} {locs : List Loc} {cells slots : Nat}
variable {y : MethodName} {bytes cc : ByteArray} {maxL nL mc ms n index : Nat} {ret : Option FieldType} {ws : List Cond} {rm : Room} {Pc : Array Value → State → Prop} {Qc : Array Value → State → Outcome → State → Prop} {XC : String → State → State → Prop} {free : Addr → Prop} {Ts : List Cond} {own C : String} {b : Addr} {As rest : List Value} {g : JFrame}
theorem vx_callBack (cb : CallB R s args own index y bytes maxL ret ws rm mc ms n) (hM : vx_Met l y ws rm Pc Qc XC mc ms free) (hbl : FrameBlind Pc) : vx_Back l R p e below s args y 3 8 (PreOf R mc ms Pc) (PostOf Qc mc ms free) (vx_Post XC mc ms free) := by
  obtain ⟨hrc, hrs, hfr, hlo, hws, hcw, -, hini, -⟩ := cb
  exact vx_back (bytes := bytes) (maxL := maxL) (ret := ret) hM hbl hrc hrs hfr hlo hws hcw (fun a' U hW => word_at hW (Or.inl (by first | rfl | simp [Cond.onTables, Cond.keeps, Cond.steady])) hini)
theorem vx_runV (S : CallFix p m c cc nL s args Ts own) (hM : vx_Met l y ws rm Pc Qc XC mc ms free) (cw : CallW R s args own C index y bytes maxL ret ws rm mc ms n) (hp : PreV s H C b Pc As)
    (hg : g.method = m) (hn : As.length = n) (hsize : g.locals.size = nL) (hstack : g.stack = As.reverse ++ .ref b :: rest) (hW : 2 * g.monitorRoom + (rest.map fun v => v.category).sum ≤ 8) (hdg : decode cc g.pc = .ok (.invokevirtual index, 3)) (hf : cells + mc ≤ R.cells ∧ slots + ms ≤ R.slots) :
    vx_Run p l e R s m args below meth c H locs cells slots mc ms g rest (Qc (Value.ref b :: As).toArray) XC free := by
  have hK : vx_Back l R p e below s args y 3 8 (PreOf R mc ms Pc) (PostOf Qc mc ms free) (vx_Post XC mc ms free) := vx_callBack cw.1 hM hp.1
  obtain ⟨⟨-, -, -, -, -, -, hcode, -, hy, hlen, hl⟩, hin, hse⟩ := cw
  obtain ⟨hx, hb, hml, ho, -⟩ := S
  obtain ⟨-, ⟨cellB, hcB, hoB, hclB⟩, hPc⟩ := hp
  intro T hT X
  rcases vx_callV X hx (C := C) (bytes := bytes) (maxL := maxL) (ret := ret) ho hl hin hse hcode hy hK (by rw [hT]; exact hcB) hoB hclB hg (hsize.trans hml.symm) (argsL := As) (rest := rest) (fun sig h => hn.trans (hlen sig h)) hstack hW (by rw [hb]; exact hdg)
    (fun vm₁ hW₁ => ⟨hf.1, hf.2, hPc (T.setVm vm₁) hT hW₁⟩) with ⟨v, vm₁, ⟨U', l2, c2, s2⟩, hW₁, X', ⟨g', mk, t, L, e1, e2, hq, h1, hL, h2, h3⟩, st⟩ | ⟨q, vm₁, ⟨U', l2, c2, s2⟩, hW₁, X', ⟨g', mk, t, L, E, ce, e1, e2, hq, hce, hcv, hcl, h1, hL, h2, h3⟩, st⟩
  · dsimp only [Pt.U, Pt.locs, Pt.cells, Pt.slots] at X' e1 e2 h1 h2 h3 st
    subst h1; subst h2; subst h3
    exact Or.inl ⟨v, (T.setVm vm₁).calling g' mk (Value.ref b :: As).toArray, t, U', L, hT, X', hL, e1, e2, hq, st⟩
  · dsimp only [Pt.U, Pt.locs, Pt.cells, Pt.slots] at X' e1 e2 h1 h2 h3 st hcl
    subst h1; subst h2; subst h3
    exact Or.inr ⟨q, (T.setVm vm₁).calling g' mk (Value.ref b :: As).toArray, t, U', L, E, ce, hT, X', hL, e1, e2, hq, hce, hcv, vx_cls hW₁ hcl, st⟩
theorem vx_runS (S : CallFix p m c cc nL s args Ts own) (hM : vx_Met l y ws rm Pc Qc XC mc ms free) (cw : CallB R s args own index y bytes maxL ret ws rm mc ms n ∧ (Cond.static y).before args s = true) (hp : PreS s H Pc As)
    (hg : g.method = m) (hn : As.length = n) (hsize : g.locals.size = nL) (hstack : g.stack = As.reverse ++ rest) (hW : 2 * g.monitorRoom + (rest.map fun v => v.category).sum ≤ 8) (hdg : decode cc g.pc = .ok (.invokestatic index, 3)) (hf : cells + mc ≤ R.cells ∧ slots + ms ≤ R.slots) :
    vx_Run p l e R s m args below meth c H locs cells slots mc ms g rest (Qc As.toArray) XC free := by
  have hK : vx_Back l R p e below s args y 3 8 (PreOf R mc ms Pc) (PostOf Qc mc ms free) (vx_Post XC mc ms free) := vx_callBack cw.1 hM hp.1
  obtain ⟨⟨-, -, -, -, -, -, hcode, hini, hy, hlen, hl⟩, hstt⟩ := cw
  obtain ⟨hx, hb, hml, ho, -⟩ := S
  intro T hT X
  rcases vx_callS X hx (bytes := bytes) (maxL := maxL) (ret := ret) ho hl hstt hini hcode hy hK hg (hsize.trans hml.symm) (argsL := As) (rest := rest) (fun sig h => hn.trans (hlen sig h)) hstack hW (by rw [hb]; exact hdg)
    (fun vm₁ hW₁ => ⟨hf.1, hf.2, hp.2 (T.setVm vm₁) hT hW₁⟩) with ⟨v, vm₁, ⟨U', l2, c2, s2⟩, hW₁, X', ⟨g', mk, t, L, e1, e2, hq, h1, hL, h2, h3⟩, st⟩ | ⟨q, vm₁, ⟨U', l2, c2, s2⟩, hW₁, X', ⟨g', mk, t, L, E, ce, e1, e2, hq, hce, hcv, hcl, h1, hL, h2, h3⟩, st⟩
  · dsimp only [Pt.U, Pt.locs, Pt.cells, Pt.slots] at X' e1 e2 h1 h2 h3 st
    subst h1; subst h2; subst h3
    exact Or.inl ⟨v, (T.setVm vm₁).calling g' mk As.toArray, t, U', L, hT, X', hL, e1, e2, hq, st⟩
  · dsimp only [Pt.U, Pt.locs, Pt.cells, Pt.slots] at X' e1 e2 h1 h2 h3 st hcl
    subst h1; subst h2; subst h3
    exact Or.inr ⟨q, (T.setVm vm₁).calling g' mk As.toArray, t, U', L, E, ce, hT, X', hL, e1, e2, hq, hce, hcv, vx_cls hW₁ hcl, st⟩
end Runs
section Rows
variable {p : Program} {l : Launch} {e : Env} {R : Room} {s : State} {m : MethodId} {args : Array Value} {below : List Frame} {meth : Method} {c : Code} {H : Heap} {locs : List Loc} {cells slots : Nat} {Q : State → Prop}
variable {mc ms : Nat} {free : Addr → Prop} {A0 A1 : Nat → Prop} {H0 : Heap} {a : Array Value} {pc : Nat} {ls : Array Slot} {st0 rest : List Value}
theorem vx_keep {st₀ t T' : State} {L : List Loc} (h0 : st₀.heap = H) (e1 : T'.heap = t.heap) (hS : va_S A0 H0 H locs) (hA : ∀ q, q < H.size → A1 q → A0 q) (hf : ∀ q, free q → A0 q) (hL : ∀ q ∈ L, free q.base) (hF : va_F A1 st₀ t) :
    H.size ≤ T'.heap.size ∧ (∀ q : Nat, q < H.size → ¬ A1 q → T'.heap[q]? = H[q]?) ∧ va_S A0 H0 T'.heap (locs ++ L) := by
  obtain ⟨hz, hk⟩ := hF
  rw [h0] at hz hk
  exact ⟨by rw [e1]; exact hz, fun q h1 h2 => by rw [e1]; exact hk q h1 h2,
    ⟨Nat.le_trans hS.1 (by rw [e1]; exact hz), fun q h1 h2 => by rw [e1, hk q (Nat.lt_of_lt_of_le h1 hS.1) (fun z => h2 (hA q (Nat.lt_of_lt_of_le h1 hS.1) z))]; exact hS.2.1 q h1 h2, fun q hq => by
      rcases List.mem_append.mp hq with h | h
      · exact hS.2.2 q h
      · exact hf _ (hL q h)⟩⟩
theorem vx_calli {S SX : Type} {post : Int32 → S → Prop} {px : SX → Prop} {B : S → State → Prop} {BX : String → SX → State → Prop} {AX : Nat → Prop} (hr : vx_Run p l e R s m args below meth c H locs cells slots mc ms (F0 m pc ls st0) rest (va_Qi post B A1 a) (vx_X px BX AX) free) (hS : va_S A0 H0 H locs) (hA : ∀ q, q < H.size → A1 q → A0 q) (hf : ∀ q, free q → A0 q) (hAX : ∀ q, q < H.size → AX q → A0 q)
    (kx : ∀ (E : String) (ce : Cell) (q9 : Addr) (u : SX) (t : State) (H1 : Heap) (locs1 : List Loc), t.heap = H1 → s.vm.Alike t.vm → px u → BX E u t → H.size ≤ H1.size → (∀ q : Nat, q < H.size → ¬ AX q → H1[q]? = H[q]?) → va_S A0 H0 H1 locs1 → H1[q9]? = some ce → ce.vm = .none → s.vm.findClass E = some ce.cls → vx_W p l e R s m args below meth c H1 locs1 (cells + mc) (slots + ms) Q (F0 m pc ls rest) q9)
    (kk : ∀ (r : Int32) (u : S) (t : State) (H1 : Heap) (locs1 : List Loc), t.heap = H1 → s.vm.Alike t.vm → post r u → B u t → H.size ≤ H1.size → (∀ q : Nat, q < H.size → ¬ A1 q → H1[q]? = H[q]?) → va_S A0 H0 H1 locs1 → W p l e R s m args below meth c H1 locs1 (cells + mc) (slots + ms) Q (F0 m (pc + 3) ls (.int r :: rest))) : W p l e R s m args below meth c H locs cells slots Q (F0 m pc ls st0) := by
  intro T hT X
  rcases hr T hT X with ⟨v, st₀, t, T', L, h0, X', hL, e1, e2, ⟨⟨r, u, hv, hp, hb⟩, hF⟩, st⟩ | ⟨q, st₀, t, T', L, E, ce, h0, X', hL, e1, e2, ⟨u, hp, hb, hF⟩, hce, hcv, hcl, st⟩
  · cases hv
    obtain ⟨k1, k2, k3⟩ := vx_keep h0 e1 hS hA hf hL hF
    obtain ⟨t2, a1, b1⟩ := kk r u t T'.heap (locs ++ L) e1.symm (by rw [← e2]; exact X'.warmed.alike) hp hb k1 k2 k3 T' rfl X'
    exact ⟨t2, st t2 a1, b1⟩
  · obtain ⟨k1, k2, k3⟩ := vx_keep h0 e1 hS hAX hf hL hF
    obtain ⟨t2, a1, b1⟩ := kx E ce q u t T'.heap (locs ++ L) e1.symm (by rw [← e2]; exact X'.warmed.alike) hp hb k1 k2 k3 (by rw [e1]; exact hce) hcv hcl T' rfl X'
    exact ⟨t2, st.trans a1, b1⟩
theorem vx_calll {S SX : Type} {post : Int64 → S → Prop} {px : SX → Prop} {B : S → State → Prop} {BX : String → SX → State → Prop} {AX : Nat → Prop} (hr : vx_Run p l e R s m args below meth c H locs cells slots mc ms (F0 m pc ls st0) rest (va_Ql post B A1 a) (vx_X px BX AX) free) (hS : va_S A0 H0 H locs) (hA : ∀ q, q < H.size → A1 q → A0 q) (hf : ∀ q, free q → A0 q) (hAX : ∀ q, q < H.size → AX q → A0 q)
    (kx : ∀ (E : String) (ce : Cell) (q9 : Addr) (u : SX) (t : State) (H1 : Heap) (locs1 : List Loc), t.heap = H1 → s.vm.Alike t.vm → px u → BX E u t → H.size ≤ H1.size → (∀ q : Nat, q < H.size → ¬ AX q → H1[q]? = H[q]?) → va_S A0 H0 H1 locs1 → H1[q9]? = some ce → ce.vm = .none → s.vm.findClass E = some ce.cls → vx_W p l e R s m args below meth c H1 locs1 (cells + mc) (slots + ms) Q (F0 m pc ls rest) q9)
    (kk : ∀ (r : Int64) (u : S) (t : State) (H1 : Heap) (locs1 : List Loc), t.heap = H1 → s.vm.Alike t.vm → post r u → B u t → H.size ≤ H1.size → (∀ q : Nat, q < H.size → ¬ A1 q → H1[q]? = H[q]?) → va_S A0 H0 H1 locs1 → W p l e R s m args below meth c H1 locs1 (cells + mc) (slots + ms) Q (F0 m (pc + 3) ls (.long r :: rest))) : W p l e R s m args below meth c H locs cells slots Q (F0 m pc ls st0) := by
  intro T hT X
  rcases hr T hT X with ⟨v, st₀, t, T', L, h0, X', hL, e1, e2, ⟨⟨r, u, hv, hp, hb⟩, hF⟩, st⟩ | ⟨q, st₀, t, T', L, E, ce, h0, X', hL, e1, e2, ⟨u, hp, hb, hF⟩, hce, hcv, hcl, st⟩
  · cases hv
    obtain ⟨k1, k2, k3⟩ := vx_keep h0 e1 hS hA hf hL hF
    obtain ⟨t2, a1, b1⟩ := kk r u t T'.heap (locs ++ L) e1.symm (by rw [← e2]; exact X'.warmed.alike) hp hb k1 k2 k3 T' rfl X'
    exact ⟨t2, st t2 a1, b1⟩
  · obtain ⟨k1, k2, k3⟩ := vx_keep h0 e1 hS hAX hf hL hF
    obtain ⟨t2, a1, b1⟩ := kx E ce q u t T'.heap (locs ++ L) e1.symm (by rw [← e2]; exact X'.warmed.alike) hp hb k1 k2 k3 (by rw [e1]; exact hce) hcv hcl T' rfl X'
    exact ⟨t2, st.trans a1, b1⟩
theorem vx_callf {S SX : Type} {post : UInt32 → S → Prop} {px : SX → Prop} {B : S → State → Prop} {BX : String → SX → State → Prop} {AX : Nat → Prop} (hr : vx_Run p l e R s m args below meth c H locs cells slots mc ms (F0 m pc ls st0) rest (va_Qf post B A1 a) (vx_X px BX AX) free) (hS : va_S A0 H0 H locs) (hA : ∀ q, q < H.size → A1 q → A0 q) (hf : ∀ q, free q → A0 q) (hAX : ∀ q, q < H.size → AX q → A0 q)
    (kx : ∀ (E : String) (ce : Cell) (q9 : Addr) (u : SX) (t : State) (H1 : Heap) (locs1 : List Loc), t.heap = H1 → s.vm.Alike t.vm → px u → BX E u t → H.size ≤ H1.size → (∀ q : Nat, q < H.size → ¬ AX q → H1[q]? = H[q]?) → va_S A0 H0 H1 locs1 → H1[q9]? = some ce → ce.vm = .none → s.vm.findClass E = some ce.cls → vx_W p l e R s m args below meth c H1 locs1 (cells + mc) (slots + ms) Q (F0 m pc ls rest) q9)
    (kk : ∀ (r : UInt32) (u : S) (t : State) (H1 : Heap) (locs1 : List Loc), t.heap = H1 → s.vm.Alike t.vm → post r u → B u t → H.size ≤ H1.size → (∀ q : Nat, q < H.size → ¬ A1 q → H1[q]? = H[q]?) → va_S A0 H0 H1 locs1 → W p l e R s m args below meth c H1 locs1 (cells + mc) (slots + ms) Q (F0 m (pc + 3) ls (.float r :: rest))) : W p l e R s m args below meth c H locs cells slots Q (F0 m pc ls st0) := by
  intro T hT X
  rcases hr T hT X with ⟨v, st₀, t, T', L, h0, X', hL, e1, e2, ⟨⟨r, u, hv, hp, hb⟩, hF⟩, st⟩ | ⟨q, st₀, t, T', L, E, ce, h0, X', hL, e1, e2, ⟨u, hp, hb, hF⟩, hce, hcv, hcl, st⟩
  · cases hv
    obtain ⟨k1, k2, k3⟩ := vx_keep h0 e1 hS hA hf hL hF
    obtain ⟨t2, a1, b1⟩ := kk r u t T'.heap (locs ++ L) e1.symm (by rw [← e2]; exact X'.warmed.alike) hp hb k1 k2 k3 T' rfl X'
    exact ⟨t2, st t2 a1, b1⟩
  · obtain ⟨k1, k2, k3⟩ := vx_keep h0 e1 hS hAX hf hL hF
    obtain ⟨t2, a1, b1⟩ := kx E ce q u t T'.heap (locs ++ L) e1.symm (by rw [← e2]; exact X'.warmed.alike) hp hb k1 k2 k3 (by rw [e1]; exact hce) hcv hcl T' rfl X'
    exact ⟨t2, st.trans a1, b1⟩
theorem vx_calld {S SX : Type} {post : UInt64 → S → Prop} {px : SX → Prop} {B : S → State → Prop} {BX : String → SX → State → Prop} {AX : Nat → Prop} (hr : vx_Run p l e R s m args below meth c H locs cells slots mc ms (F0 m pc ls st0) rest (va_Qd post B A1 a) (vx_X px BX AX) free) (hS : va_S A0 H0 H locs) (hA : ∀ q, q < H.size → A1 q → A0 q) (hf : ∀ q, free q → A0 q) (hAX : ∀ q, q < H.size → AX q → A0 q)
    (kx : ∀ (E : String) (ce : Cell) (q9 : Addr) (u : SX) (t : State) (H1 : Heap) (locs1 : List Loc), t.heap = H1 → s.vm.Alike t.vm → px u → BX E u t → H.size ≤ H1.size → (∀ q : Nat, q < H.size → ¬ AX q → H1[q]? = H[q]?) → va_S A0 H0 H1 locs1 → H1[q9]? = some ce → ce.vm = .none → s.vm.findClass E = some ce.cls → vx_W p l e R s m args below meth c H1 locs1 (cells + mc) (slots + ms) Q (F0 m pc ls rest) q9)
    (kk : ∀ (r : UInt64) (u : S) (t : State) (H1 : Heap) (locs1 : List Loc), t.heap = H1 → s.vm.Alike t.vm → post r u → B u t → H.size ≤ H1.size → (∀ q : Nat, q < H.size → ¬ A1 q → H1[q]? = H[q]?) → va_S A0 H0 H1 locs1 → W p l e R s m args below meth c H1 locs1 (cells + mc) (slots + ms) Q (F0 m (pc + 3) ls (.double r :: rest))) : W p l e R s m args below meth c H locs cells slots Q (F0 m pc ls st0) := by
  intro T hT X
  rcases hr T hT X with ⟨v, st₀, t, T', L, h0, X', hL, e1, e2, ⟨⟨r, u, hv, hp, hb⟩, hF⟩, st⟩ | ⟨q, st₀, t, T', L, E, ce, h0, X', hL, e1, e2, ⟨u, hp, hb, hF⟩, hce, hcv, hcl, st⟩
  · cases hv
    obtain ⟨k1, k2, k3⟩ := vx_keep h0 e1 hS hA hf hL hF
    obtain ⟨t2, a1, b1⟩ := kk r u t T'.heap (locs ++ L) e1.symm (by rw [← e2]; exact X'.warmed.alike) hp hb k1 k2 k3 T' rfl X'
    exact ⟨t2, st t2 a1, b1⟩
  · obtain ⟨k1, k2, k3⟩ := vx_keep h0 e1 hS hAX hf hL hF
    obtain ⟨t2, a1, b1⟩ := kx E ce q u t T'.heap (locs ++ L) e1.symm (by rw [← e2]; exact X'.warmed.alike) hp hb k1 k2 k3 (by rw [e1]; exact hce) hcv hcl T' rfl X'
    exact ⟨t2, st.trans a1, b1⟩
theorem vx_callv {S SX : Type} {post : S → Prop} {px : SX → Prop} {B : S → State → Prop} {BX : String → SX → State → Prop} {AX : Nat → Prop} (hr : vx_Run p l e R s m args below meth c H locs cells slots mc ms (F0 m pc ls st0) rest (va_Qv post B A1 a) (vx_X px BX AX) free) (hS : va_S A0 H0 H locs) (hA : ∀ q, q < H.size → A1 q → A0 q) (hf : ∀ q, free q → A0 q) (hAX : ∀ q, q < H.size → AX q → A0 q)
    (kx : ∀ (E : String) (ce : Cell) (q9 : Addr) (u : SX) (t : State) (H1 : Heap) (locs1 : List Loc), t.heap = H1 → s.vm.Alike t.vm → px u → BX E u t → H.size ≤ H1.size → (∀ q : Nat, q < H.size → ¬ AX q → H1[q]? = H[q]?) → va_S A0 H0 H1 locs1 → H1[q9]? = some ce → ce.vm = .none → s.vm.findClass E = some ce.cls → vx_W p l e R s m args below meth c H1 locs1 (cells + mc) (slots + ms) Q (F0 m pc ls rest) q9)
    (kk : ∀ (u : S) (t : State) (H1 : Heap) (locs1 : List Loc), t.heap = H1 → s.vm.Alike t.vm → post u → B u t → H.size ≤ H1.size → (∀ q : Nat, q < H.size → ¬ A1 q → H1[q]? = H[q]?) → va_S A0 H0 H1 locs1 → W p l e R s m args below meth c H1 locs1 (cells + mc) (slots + ms) Q (F0 m (pc + 3) ls (rest))) : W p l e R s m args below meth c H locs cells slots Q (F0 m pc ls st0) := by
  intro T hT X
  rcases hr T hT X with ⟨v, st₀, t, T', L, h0, X', hL, e1, e2, ⟨⟨u, hv, hp, hb⟩, hF⟩, st⟩ | ⟨q, st₀, t, T', L, E, ce, h0, X', hL, e1, e2, ⟨u, hp, hb, hF⟩, hce, hcv, hcl, st⟩
  · cases hv
    obtain ⟨k1, k2, k3⟩ := vx_keep h0 e1 hS hA hf hL hF
    obtain ⟨t2, a1, b1⟩ := kk u t T'.heap (locs ++ L) e1.symm (by rw [← e2]; exact X'.warmed.alike) hp hb k1 k2 k3 T' rfl X'
    exact ⟨t2, st t2 a1, b1⟩
  · obtain ⟨k1, k2, k3⟩ := vx_keep h0 e1 hS hAX hf hL hF
    obtain ⟨t2, a1, b1⟩ := kx E ce q u t T'.heap (locs ++ L) e1.symm (by rw [← e2]; exact X'.warmed.alike) hp hb k1 k2 k3 (by rw [e1]; exact hce) hcv hcl T' rfl X'
    exact ⟨t2, st.trans a1, b1⟩
end Rows
section Ends
variable {p : Program} {l : Launch} {e : Env} {R : Room} {s : State} {m : MethodId} {args : Array Value} {below : List Frame} {meth : Method} {c : Code} {H : Heap} {locs : List Loc} {cells slots : Nat} {Q : State → Prop}
variable {mc ms : Nat} {free : Addr → Prop} {A0 A1 : Nat → Prop} {H0 : Heap} {a : Array Value} {ls : Array Slot} {st0 rest : List Value}
variable {Qc : Array Value → State → Outcome → State → Prop} {XC : String → State → State → Prop}
/-- what a body that may throw owes at its end -/
def vx_MQ (below : List Frame) (Qc : Array Value → State → Outcome → State → Prop) (XC : String → State → State → Prop) (a : Array Value) (s : State) (mc ms : Nat) (free : Addr → Prop) : State → Prop := fun t =>
  ∃ o, t.status = .running ∧ Ended t below o ∧ vx_Q Qc XC mc ms free a s o t
theorem vx_ret {g : JFrame} {mc ms : Nat} (k : W p l e R s m args below meth c H locs cells slots (MQ below Qc args s mc ms free) g) : W p l e R s m args below meth c H locs cells slots (vx_MQ below Qc XC args s mc ms free) g := by
  intro T hT X
  obtain ⟨t, a1, o, b1, b2, b3, b4⟩ := k T hT X
  exact ⟨t, a1, o, b1, b2, Or.inl ⟨b3, b4⟩⟩
/-- not caught here: it goes on to the caller -/
theorem vx_widen {g : JFrame} {q : Addr} {k n : Nat} (h1 : cells ≤ k) (h2 : slots ≤ n) (kk : vx_W p l e R s m args below meth c H locs k n Q g q) : vx_W p l e R s m args below meth c H locs cells slots Q g q := fun T hT X => kk T hT (stand_widen X h1 h2)
theorem vx_out {pc : Nat} {E : String} {ce : Cell} {q : Addr} {mc ms : Nat} (hout : ∀ x ∈ c.exceptionTable.toList, covers x pc = false) (hlocks : meth.locks = false) (hcell : H[q]? = some ce) (hv : ce.vm = .none) (hcl : s.vm.findClass E = some ce.cls)
    (hx : ∀ t : State, t.heap = H → s.vm.Alike t.vm → XC E s t) (hf : ∀ z ∈ locs, free z.base) (hc : cells ≤ mc) (hs : slots ≤ ms) :
    vx_W p l e R s m args below meth c H locs cells slots (vx_MQ below Qc XC args s mc ms free) (F0 m pc ls rest) q := by
  intro T hT X
  obtain ⟨st1, hrun, hend, hW, hsm⟩ := X.leaveThrown q (g := F0 m pc ls rest) rfl rfl rfl hout hlocks
  have hcell9 : (T.setFrames (.throwing q :: below)).heap[q]? = some ce := by
    show T.heap[q]? = some ce
    rw [hT]; exact hcell
  exact ⟨_, st1, .threw q, hrun, hend, Or.inr ⟨q, rfl, E, ce, locs, hx _ hT hW.alike, hcell9, hv, hcl, hW, hsm.mono hc hs, hf⟩⟩
theorem vx_frame {U : State} {k n : Nat} (h : s.sameButNew ({ U with vm := s.vm } : State) locs k n) : s.heap.size ≤ U.heap.size ∧ ∀ q : Nat, q < s.heap.size → (∀ z ∈ locs, z.base ≠ q) → U.heap[q]? = s.heap[q]? := by
  obtain ⟨-, h2, -, -, -, h6⟩ := h
  refine ⟨h2, fun q hq hz => ?_⟩
  obtain ⟨c9, e1, e2, e3, e4⟩ := h6 q _ (Array.getElem?_eq_getElem hq)
  have hs : c9.slots = (s.heap[q]).slots := Array.ext_getElem? fun i => e4 i fun hm => hz _ hm rfl
  have h9 : c9 = s.heap[q] := by
    rw [hs] at e2
    exact e2
  have e5 : U.heap[q]? = some c9 := e1
  rw [e5, h9, Array.getElem?_eq_getElem hq]
/-- the words of a throw but the four that speak of the heap -/
def vx_no (w : Cond) : Bool := decide (w ≠ .isRef (.static Bundle.tN "UNASSIGNED_STACK" Bundle.steD)) && decide (w ≠ .isRef (.static Bundle.tN "SUPPRESSED_SENTINEL" Bundle.listD)) && decide (w ≠ .laysStatic Bundle.tN "UNASSIGNED_STACK" Bundle.steD) && decide (w ≠ .laysStatic Bundle.tN "SUPPRESSED_SENTINEL" Bundle.listD)
def vx_at0 (own : String) (ic : Nat) (X : String) (names : List String) : List Cond := (Bundle.ownAtoms0 own ic X names).filter vx_no
def vx_atS (own : String) (ic : Nat) (X : String) (names : List String) : List Cond := (Bundle.ownAtoms own ic X names).filter vx_no
/-- a word that the tables alone decide, or a good one -/
def vx_ot (w : Cond) : Bool := w.onTables || goodWord w
theorem vx_ot_at {args a' : Array Value} {s U : State} {w : Cond} (hW : s.WarmedH U.vm) (hvm : s.vm = U.vm) (hg : vx_ot w = true) (h : w.before args s = true) : w.before a' U = true := by
  simp only [vx_ot, Bool.or_eq_true] at hg
  rcases hg with hg | hg
  · exact va_tabs hg hvm h
  · exact word_at hW (good_of_word hg) h
/-- a list's words: the good ones out of the method's own list, the others by premises of their own -/
theorem vx_hat {args : Array Value} {s : State} {L B : List Cond} (h1 : ∀ w ∈ L.filter goodWord, w.before args s = true) (h2 : ∀ w ∈ L.filter (fun w => !goodWord w), w ∈ B) (h3 : ∀ w ∈ B, w.before args s = true) : ∀ w ∈ L, w.before args s = true := by
  intro w hw
  by_cases g : goodWord w = true
  · exact h1 w (List.mem_filter.mpr ⟨hw, g⟩)
  · refine h3 w (h2 w (List.mem_filter.mpr ⟨hw, ?_⟩))
    show (!goodWord w) = true
    cases hgw : goodWord w
    · rfl
    · exact absurd hgw g
theorem vx_c {args : Array Value} {s : State} {w : Cond} {B : List Cond} (h : w.before args s = true) (t : ∀ w ∈ B, w.before args s = true) : ∀ w' ∈ w :: B, w'.before args s = true := fun w' h' => (List.mem_cons.mp h').elim (fun e => by rw [e]; exact h) (t w')
theorem vx_n {args : Array Value} {s : State} : ∀ w ∈ ([] : List Cond), w.before args s = true := fun _ h => nomatch h
theorem vx_own {args : Array Value} {s : State} {L : List Cond} (h1 : ∀ w ∈ L.filter vx_no, w.before args s = true)
    (hU : (Cond.isRef (.static Bundle.tN "UNASSIGNED_STACK" Bundle.steD)).before args s = true) (hN : (Cond.isRef (.static Bundle.tN "SUPPRESSED_SENTINEL" Bundle.listD)).before args s = true)
    (lU : (Cond.laysStatic Bundle.tN "UNASSIGNED_STACK" Bundle.steD).before args s = true) (lN : (Cond.laysStatic Bundle.tN "SUPPRESSED_SENTINEL" Bundle.listD).before args s = true) : ∀ w ∈ L, w.before args s = true := by
  intro w hw
  by_cases e1 : w = .isRef (.static Bundle.tN "UNASSIGNED_STACK" Bundle.steD)
  · rw [e1]; exact hU
  · by_cases e2 : w = .isRef (.static Bundle.tN "SUPPRESSED_SENTINEL" Bundle.listD)
    · rw [e2]; exact hN
    · by_cases e3 : w = .laysStatic Bundle.tN "UNASSIGNED_STACK" Bundle.steD
      · rw [e3]; exact lU
      · by_cases e4 : w = .laysStatic Bundle.tN "SUPPRESSED_SENTINEL" Bundle.listD
        · rw [e4]; exact lN
        · exact h1 w (List.mem_filter.mpr ⟨hw, by unfold vx_no; rw [decide_eq_true e1, decide_eq_true e2, decide_eq_true e3, decide_eq_true e4]; rfl⟩)
/-- where a static field lies, its class's statics cell in H -/
def vx_L (C n d : String) (A : Nat → Prop) (U : State) (H : Heap) : Prop := ∃ (c : ClassId) (k : Class) (i : Nat) (f : Field) (a : Nat) (cell : Cell), U.vm.findClass C = some c ∧ U.fieldFound? C n d = some (c, k, i, f) ∧ f.isStatic = true ∧ k.statics = some a ∧ H[a]? = some cell ∧ cell.vm.isStatics = true ∧ cell.cls = c ∧ f.slot < cell.slots.size ∧ k.staticTypes[f.slot]? = some f.type ∧ ¬ A a
theorem vx_L.moved {C n d : String} {A : Nat → Prop} {u U : State} {H : Heap} (hvm : u.vm.Alike U.vm) (h : vx_L C n d A u H) : vx_L C n d A U H := by
  obtain ⟨c, k, i, f, a, cell, h1, h2, h3, h4, h5, h6, h7, h8, h9, h10⟩ := h
  obtain ⟨k', hi', he⟩ := State.fieldFound?_setVm hvm h2
  exact ⟨c, k', i, f, a, cell, by rw [hvm.findClass]; exact h1, hi', h3, by rw [he]; exact h4, h5, h6, h7, h8, by rw [he]; exact h9, h10⟩
theorem vx_L.kept {C n d : String} {A : Nat → Prop} {U : State} {H H1 : Heap} (h : vx_L C n d A U H) (hq : ∀ a : Nat, a < H.size → ¬ A a → H1[a]? = H[a]?) : vx_L C n d A U H1 := by
  obtain ⟨c, k, i, f, a, cell, h1, h2, h3, h4, h5, h6, h7, h8, h9, h10⟩ := h
  exact ⟨c, k, i, f, a, cell, h1, h2, h3, h4, by rw [hq a (Array.getElem?_eq_some_iff.mp h5).1 h10]; exact h5, h6, h7, h8, h9, h10⟩
theorem vx_L.narrow {C n d : String} {A B : Nat → Prop} {U : State} {H : Heap} (h : vx_L C n d A U H) (hAB : ∀ q, B q → A q) : vx_L C n d B U H := by
  obtain ⟨c, k, i, f, a, cell, h1, h2, h3, h4, h5, h6, h7, h8, h9, h10⟩ := h
  exact ⟨c, k, i, f, a, cell, h1, h2, h3, h4, h5, h6, h7, h8, h9, fun z => h10 (hAB _ z)⟩
theorem vx_L.word {C n d : String} {A : Nat → Prop} {s : State} {args : Array Value} (h : vx_L C n d A s s.heap) : (Cond.laysStatic C n d).before args s = true := by
  obtain ⟨c, k, i, f, a, cell, h1, h2, h3, h4, h5, h6, h7, h8, h9, -⟩ := h
  show (Cond.laysStatic C n d).holds args s none s [] = true
  exact Cond.laysStatic_of h1 h2 h3 h4 h5 h6 h7 h8 h9
/-- .. and what it holds: null or some reference -/
def vx_Zq (C n d : String) (A : Nat → Prop) (U : State) (H : Heap) : Prop := va_Zq C n d A U H ∧ vx_L C n d A U H
theorem vx_Zq.moved {C n d : String} {A : Nat → Prop} {u U : State} {H : Heap} (hvm : u.vm.Alike U.vm) (h : vx_Zq C n d A u H) : vx_Zq C n d A U H := ⟨va_Zq.moved hvm h.1, vx_L.moved hvm h.2⟩
theorem vx_Zq.kept {C n d : String} {A : Nat → Prop} {U : State} {H H1 : Heap} (h : vx_Zq C n d A U H) (hq : ∀ a : Nat, a < H.size → ¬ A a → H1[a]? = H[a]?) : vx_Zq C n d A U H1 := ⟨va_Zq.kept h.1 hq, vx_L.kept h.2 hq⟩
theorem vx_Zq.narrow {C n d : String} {A B : Nat → Prop} {U : State} {H : Heap} (h : vx_Zq C n d A U H) (hAB : ∀ q, B q → A q) : vx_Zq C n d B U H := ⟨va_Zq.narrow h.1 hAB, vx_L.narrow h.2 hAB⟩
theorem vx_Zqof {args : Array Value} {s : State} {C n d : String} {A : Nat → Prop} (hl : (Cond.laysStatic C n d).before args s = true) (hini : (Cond.initialized C).before args s = true) (h : (Cond.isRef (.static C n d)).before args s = true) (hA : ∀ a : Nat, a < s.heap.size → ¬ A a) : vx_Zq C n d A s s.heap := by
  refine ⟨va_Zqof hl hini h hA, ?_⟩
  obtain ⟨c, k, i, f, a, cell, h1, h2, h3, h4, h5, h6, h7, h8, h9⟩ := Cond.laysStatic_spec hl
  exact ⟨c, k, i, f, a, cell, h1, h2, h3, h4, h5, h6, h7, h8, h9, hA a (Array.getElem?_eq_some_iff.mp h5).1⟩
theorem vx_isRef {C n d : String} {v : Value} {A : Nat → Prop} {s : State} {args : Array Value} (h : va_Z C n d v A s s.heap) (hv : v.isRef = true) : (Cond.isRef (.static C n d)).before args s = true := by
  obtain ⟨cf, kf, fi, f, a, cell, h1, h2, h3, h4, h5, h6, h7, -⟩ := h
  have he : (Term.static C n d).eval args s none [] s = some v := by
    simp [Term.eval, State.fieldNamed?, h1, h2, h4, h5, h6, h7]
  simp only [Cond.before, Cond.holds, Cond.value, he]
  cases v <;> simp_all [Value.isRef]
theorem vx_isRefq {C n d : String} {A : Nat → Prop} {s : State} {args : Array Value} (h : va_Zq C n d A s s.heap) : (Cond.isRef (.static C n d)).before args s = true := by
  rcases h with h | ⟨t, h⟩
  · exact vx_isRef h rfl
  · exact vx_isRef h rfl
/-- the same frame, seen from here: as if the method were called anew in this heap -/
theorem vx_rebase {T : State} (X : Stand p l e R s m args below meth c T locs cells slots) {R' : Room} (hf : R'.frames ≤ R.frames) (hl : R'.locals ≤ R.locals) (hc : cells + R'.cells ≤ R.cells) (hs : slots + R'.slots ≤ R.slots) :
    Stand p l e R' ((T.setVm s.vm).setFrames (.invoking m args :: below)) m args below meth c T [] 0 0 := by
  have htop : (T.setVm s.vm).topJava?.isSome := X.here.top
  have hF : ((T.setVm s.vm).setFrames (.invoking m args :: below)).frames = .invoking m args :: below := State.frames_setFrames _ (State.cur_lt_of_top htop)
  obtain ⟨g₀, hg0⟩ := Option.isSome_iff_exists.mp htop
  obtain ⟨r, hr⟩ := State.topJava?_eq_some.mp hg0
  have hl9 : e.platform.stackLimits (T.setVm s.vm).me = e.platform.stackLimits s.me := X.limits
  have hb9 : (T.setVm s.vm).me.stackBytes = s.me.stackBytes := X.bytes
  refine ⟨X.admits, X.cas, X.clock, hF, ?_, X.hears, X.method, X.code, X.here, X.tail, X.warmed, ?_, ?_, ?_⟩
  · have h := X.room
    have hU : ((T.setVm s.vm).setFrames (.invoking m args :: below)).localsInUse = s.localsInUse := by
      rw [State.localsInUse_invoking hF (meth := meth) (c := c) X.method X.code, State.localsInUse_invoking X.frames X.method X.code]
    simp only [State.hasRoom, Bool.and_eq_true, decide_eq_true_eq] at h ⊢
    obtain ⟨⟨⟨⟨h1, h2, h3, h4, h5, h6⟩, h7⟩, h8⟩, h9⟩ := h
    rw [X.frames, List.length_cons] at h2 h3
    have q1 := X.heapSize
    have q2 := X.used
    simp only [hF, hU, List.length_cons, State.stackLimits_setFrames, State.stackBytes_setFrames, hl9, hb9]
    refine ⟨⟨⟨⟨by omega, by omega, by omega, by omega, by omega, h6⟩, ?_⟩, ?_⟩, X.book⟩
    · show T.heap.size + R'.cells ≤ e.platform.maxCells
      omega
    · show T.slotsUsed + R'.slots ≤ e.platform.maxSlots
      omega
  · rw [State.stackLimits_setFrames]; rfl
  · rw [State.stackBytes_setFrames]; rfl
  · refine ⟨?_, Nat.le_refl _, Nat.le_refl _, ?_, ?_, fun a c9 h9 => ⟨c9, h9, rfl, rfl, fun _ _ => rfl⟩⟩
    · obtain ⟨t, ht, -⟩ := State.frames_cons hr
      show T.setVm s.vm = { ((T.setVm s.vm).setFrames (.invoking m args :: below)).setFrames (T.setVm s.vm).frames with heap := T.heap, slotsUsed := T.slotsUsed }
      rw [State.setFrames_setFrames, State.setFrames_self ht]
      rfl
    · show T.slotsUsed = T.slotsUsed + ((T.heap.toList.drop T.heap.size).map (·.slots.size)).sum
      rw [List.drop_eq_nil_of_le (Nat.le_of_eq Array.length_toList)]
      rfl
    · show ((T.heap.toList.drop T.heap.size).map (·.slots.size)).sum ≤ 0
      rw [List.drop_eq_nil_of_le (Nat.le_of_eq Array.length_toList)]
      exact Nat.le_refl _
/-- 'throw new E()': new; dup; invokespecial; athrow -/
theorem vx_throw0 {cc : ByteArray} {pc : Nat} (hexec : p.tables.exec = Jvm.exec) (hb : c.code = cc) (hl : l.stackTraces = false) {own cls : String} {names : List String} {ik ic mc ms : Nat} {A : Nat → Prop}
    (hown : s.vm.findClass own = some m.cls) (hcls : Bundle.fit cls = true) (hnames : ∀ n ∈ names, Bundle.fit n = true)
    (hk : (Cond.classLink own ik cls).before args s = true) (hini : (Cond.initialized cls).before args s = true) (hat : ∀ w ∈ vx_at0 own ic cls names, w.before args s = true)
    (hgood : ∀ w ∈ Cond.classLink own ik cls :: Cond.initialized cls :: vx_at0 own ic cls names, vx_ot w = true)
    (hU : vx_Zq Bundle.tN "UNASSIGNED_STACK" Bundle.steD A s s.heap) (hN : vx_Zq Bundle.tN "SUPPRESSED_SENTINEL" Bundle.listD A s s.heap) (hS : va_S A s.heap H locs) (hsize : ls.size = c.maxLocals)
    (d0 : decode cc pc = .ok (.new ik, 3)) (d3 : decode cc (pc + 3) = .ok (.dup, 1)) (d4 : decode cc (pc + 4) = .ok (.invokespecial ic, 3)) (d7 : decode cc (pc + 7) = .ok (.athrow, 1))
    (hout : ∀ x ∈ c.exceptionTable.toList, covers x (pc + 7) = false)
    (hRframes : names.length + 3 < R.frames) (hRlocals : (rest.map fun v => v.category).sum + (13 * (names.length + 1) + 42) ≤ R.locals) (hRcells : cells + 1 ≤ R.cells) (hRslots : slots + 6 ≤ R.slots) (hlocks : meth.locks = false)
    (hx : ∀ t : State, s.vm.Alike t.vm → H.size ≤ t.heap.size → (∀ q : Nat, q < H.size → t.heap[q]? = H[q]?) → XC cls s t)
    (hf : ∀ z ∈ locs, free z.base) (hc : cells + 1 ≤ mc) (hs : slots + 6 ≤ ms) :
    W p l e R s m args below meth c H locs cells slots (vx_MQ below Qc XC args s mc ms free) (F0 m pc ls rest) := by
  intro T hT X
  have htr : e.platform.stackTraces = false := (show e.platform.stackTraces = l.stackTraces by rw [X.admits.platform]).trans hl
  have Y := vx_rebase X (R' := { frames := R.frames, locals := R.locals, cells := 1, slots := 6 }) (Nat.le_refl _) (Nat.le_refl _) hRcells hRslots
  obtain ⟨s', hA⟩ : ∃ z, z = (T.setVm s.vm).setFrames (.invoking m args :: below) := ⟨_, rfl⟩
  rw [← hA] at Y
  have hvm : s'.vm = s.vm := by rw [hA]; rfl
  have hhp : s'.heap = H := by rw [hA]; exact hT
  have hW0 : s.WarmedH s'.vm := by rw [hvm]; exact State.WarmedH.refl s
  have hat' : ∀ w ∈ vx_at0 own ic cls names, w.before args s' = true := fun w hw => vx_ot_at hW0 hvm.symm (hgood w (List.mem_cons_of_mem _ (List.mem_cons_of_mem _ hw))) (hat w hw)
  have hk' : (Cond.classLink own ik cls).before args s' = true := vx_ot_at hW0 hvm.symm (hgood _ List.mem_cons_self) hk
  have hini' : (Cond.initialized cls).before args s' = true := vx_ot_at hW0 hvm.symm (hgood _ (List.mem_cons_of_mem _ List.mem_cons_self)) hini
  have hU' : vx_Zq Bundle.tN "UNASSIGNED_STACK" Bundle.steD A s' s'.heap := by rw [hhp]; exact vx_Zq.moved hW0.alike (hU.kept hS.2.1)
  have hN' : vx_Zq Bundle.tN "SUPPRESSED_SENTINEL" Bundle.listD A s' s'.heap := by rw [hhp]; exact vx_Zq.moved hW0.alike (hN.kept hS.2.1)
  have h : ∀ w ∈ Bundle.ownAtoms0 own ic cls names, w.before args s' = true := vx_own hat' (vx_isRefq hU'.1) (vx_isRefq hN'.1) hU'.2.word hN'.2.word
  have hown' : s'.vm.findClass own = some m.cls := by rw [hvm]; exact hown
  have hins : (Cond.instantiable cls 6).before args s' = true := h _ (by simp [Bundle.ownAtoms0])
  obtain ⟨vm₁, cX, kX, hfX, hkX, -, -, X₁, st1⟩ := Y.newCold hexec (own := own) (C := cls) (index := ik) (n := 6) hown' hk' hins hini'
    (g := F0 m pc ls rest) rfl (by rw [hb]; exact d0) (Nat.le_refl _) (Nat.le_refl _)
  generalize hT1 : (T.setVm vm₁).pushCell { cls := cX, slots := kX.instanceTypes.map defaultValue, vm := .none } = T1 at X₁ st1
  have hcat : (Value.ref T.heap.size).category = 1 := rfl
  have hcellA : T1.heap[T.heap.size]? = some (freshCell cX kX) := by rw [← hT1]; exact State.heap_pushCell_size _ _
  have d3' : decode c.code (pc + 3) = .ok (.dup, 1) := by rw [hb]; exact d3
  obtain ⟨U, hsteps, hrun, hend, hW, hsame, ce, hce, hO⟩ := X₁.ctorThrow0 hexec htr (own := own) (cls := cls) (names := names) (ic := ic) hown' hcls hnames h (fun x hx => nomatch hx) hfX hkX hcellA (by rw [hhp, hT]; exact Nat.le_refl _)
    (g := { method := m, pc := pc + 4, locals := ls, stack := .ref T.heap.size :: .ref T.heap.size :: rest, locked := none }) rfl hsize rfl rfl (rest := rest) rfl
    (by rw [hb]; exact d4) (by rw [hb]; exact d7) hout hRframes (by simp only [List.map_cons, List.sum_cons, hcat]; omega) hlocks
  obtain ⟨f1, f2⟩ := vx_frame hsame
  rw [hhp] at f1 f2
  have hWs : s.WarmedH U.vm := State.WarmedH.trans hW0 hW
  have hcl : s.vm.findClass cls = some ce.cls := by
    have h9 := hO.cls
    rw [hvm] at h9
    exact h9
  have hall : s.sameButNew ({ U with vm := s.vm } : State) locs mc ms := by
    subst hA
    obtain ⟨e1, e2⟩ := hsame
    rw [State.setFrames_setFrames] at e1
    have h2 : (T.setVm s.vm).sameButNew ({ U with vm := s.vm } : State) [] (0 + 1) (0 + 6) := ⟨e1, e2⟩
    have h3 := X.same.trans h2
    rw [List.append_nil] at h3
    exact h3.mono hc hs
  refine ⟨U, ?_, .threw T.heap.size, hrun, hend, Or.inr ⟨T.heap.size, rfl, cls, ce, locs, hx U hWs.alike f1 (fun q hq => f2 q hq (fun z hz => nomatch hz)), hce, hO.vm, hcl, hWs, hall, hf⟩⟩
  refine st1 _ ?_
  show Steps p.tables e below (T1.setTop { method := m, pc := pc + 3, locals := ls, stack := .ref T.heap.size :: rest, locked := none }) _
  jvm_step X₁.here [X₁.here.top, hexec, d3', Value.category]
  exact hsteps
/-- 'throw new E("text")': new; dup; ldc; invokespecial; athrow -/
theorem vx_throwS {cc : ByteArray} {pc : Nat} (hexec : p.tables.exec = Jvm.exec) (hb : c.code = cc) (hl : l.stackTraces = false) {own cls text : String} {names : List String} {ik is ic mc ms sa : Nat} {A : Nat → Prop}
    (hown : s.vm.findClass own = some m.cls) (hcls : Bundle.fit cls = true) (hnames : ∀ n ∈ names, Bundle.fit n = true)
    (hk : (Cond.classLink own ik cls).before args s = true) (hini : (Cond.initialized cls).before args s = true) (hstr : vk_R own is text sa s) (hat : ∀ w ∈ vx_atS own ic cls names, w.before args s = true)
    (hgood : ∀ w ∈ Cond.classLink own ik cls :: Cond.initialized cls :: vx_atS own ic cls names, vx_ot w = true)
    (hU : vx_Zq Bundle.tN "UNASSIGNED_STACK" Bundle.steD A s s.heap) (hN : vx_Zq Bundle.tN "SUPPRESSED_SENTINEL" Bundle.listD A s s.heap) (hS : va_S A s.heap H locs) (hsize : ls.size = c.maxLocals)
    (d0 : decode cc pc = .ok (.new ik, 3)) (d3 : decode cc (pc + 3) = .ok (.dup, 1)) (d4 : decode cc (pc + 4) = .ok (.ldc is, 2)) (d6 : decode cc (pc + 6) = .ok (.invokespecial ic, 3)) (d9 : decode cc (pc + 9) = .ok (.athrow, 1))
    (hout : ∀ x ∈ c.exceptionTable.toList, covers x (pc + 9) = false)
    (hRframes : names.length + 3 < R.frames) (hRlocals : (rest.map fun v => v.category).sum + (13 * (names.length + 1) + 43) ≤ R.locals) (hRcells : cells + 1 ≤ R.cells) (hRslots : slots + 6 ≤ R.slots) (hlocks : meth.locks = false)
    (hx : ∀ t : State, s.vm.Alike t.vm → H.size ≤ t.heap.size → (∀ q : Nat, q < H.size → t.heap[q]? = H[q]?) → XC cls s t)
    (hf : ∀ z ∈ locs, free z.base) (hc : cells + 1 ≤ mc) (hs : slots + 6 ≤ ms) :
    W p l e R s m args below meth c H locs cells slots (vx_MQ below Qc XC args s mc ms free) (F0 m pc ls rest) := by
  intro T hT X
  have htr : e.platform.stackTraces = false := (show e.platform.stackTraces = l.stackTraces by rw [X.admits.platform]).trans hl
  have Y := vx_rebase X (R' := { frames := R.frames, locals := R.locals, cells := 1, slots := 6 }) (Nat.le_refl _) (Nat.le_refl _) hRcells hRslots
  obtain ⟨s', hA⟩ : ∃ z, z = (T.setVm s.vm).setFrames (.invoking m args :: below) := ⟨_, rfl⟩
  rw [← hA] at Y
  have hvm : s'.vm = s.vm := by rw [hA]; rfl
  have hhp : s'.heap = H := by rw [hA]; exact hT
  have hW0 : s.WarmedH s'.vm := by rw [hvm]; exact State.WarmedH.refl s
  have hat' : ∀ w ∈ vx_atS own ic cls names, w.before args s' = true := fun w hw => vx_ot_at hW0 hvm.symm (hgood w (List.mem_cons_of_mem _ (List.mem_cons_of_mem _ hw))) (hat w hw)
  have hk' : (Cond.classLink own ik cls).before args s' = true := vx_ot_at hW0 hvm.symm (hgood _ List.mem_cons_self) hk
  have hini' : (Cond.initialized cls).before args s' = true := vx_ot_at hW0 hvm.symm (hgood _ (List.mem_cons_of_mem _ List.mem_cons_self)) hini
  have hU' : vx_Zq Bundle.tN "UNASSIGNED_STACK" Bundle.steD A s' s'.heap := by rw [hhp]; exact vx_Zq.moved hW0.alike (hU.kept hS.2.1)
  have hN' : vx_Zq Bundle.tN "SUPPRESSED_SENTINEL" Bundle.listD A s' s'.heap := by rw [hhp]; exact vx_Zq.moved hW0.alike (hN.kept hS.2.1)
  have h : ∀ w ∈ Bundle.ownAtoms own ic cls names, w.before args s' = true := vx_own hat' (vx_isRefq hU'.1) (vx_isRefq hN'.1) hU'.2.word hN'.2.word
  have hown' : s'.vm.findClass own = some m.cls := by rw [hvm]; exact hown
  have hins : (Cond.instantiable cls 6).before args s' = true := h _ (by simp [Bundle.ownAtoms])
  obtain ⟨vm₁, cX, kX, hfX, hkX, -, -, X₁, st1⟩ := Y.newCold hexec (own := own) (C := cls) (index := ik) (n := 6) hown' hk' hins hini'
    (g := F0 m pc ls rest) rfl (by rw [hb]; exact d0) (Nat.le_refl _) (Nat.le_refl _)
  generalize hT1 : (T.setVm vm₁).pushCell { cls := cX, slots := kX.instanceTypes.map defaultValue, vm := .none } = T1 at X₁ st1
  have hcat : (Value.ref T.heap.size).category = 1 := rfl
  have hcellA : T1.heap[T.heap.size]? = some (freshCell cX kX) := by rw [← hT1]; exact State.heap_pushCell_size _ _
  have d3' : decode c.code (pc + 3) = .ok (.dup, 1) := by rw [hb]; exact d3
  have d4' : decode c.code (pc + 4) = .ok (.ldc is, 2) := by rw [hb]; exact d4
  have hstr' : vk_R own is text sa s' := vk_R.warm hW0 hstr
  obtain ⟨U, hsteps, hrun, hend, hW, hsame, ce, hce, hO⟩ := X₁.ctorThrowS hexec htr (own := own) (cls := cls) (names := names) (ic := ic) hown' hcls hnames h (fun x hx => nomatch hx) hfX hkX hcellA (by rw [hhp, hT]; exact Nat.le_refl _) (msg := .ref sa) rfl
    (g := { method := m, pc := pc + 6, locals := ls, stack := .ref sa :: .ref T.heap.size :: .ref T.heap.size :: rest, locked := none }) rfl hsize rfl rfl (rest := rest) rfl
    (by rw [hb]; exact d6) (by rw [hb]; exact d9) hout hRframes (by simp only [List.map_cons, List.sum_cons, hcat]; omega) hlocks
  obtain ⟨f1, f2⟩ := vx_frame hsame
  rw [hhp] at f1 f2
  have hWs : s.WarmedH U.vm := State.WarmedH.trans hW0 hW
  have hcl : s.vm.findClass cls = some ce.cls := by
    have h9 := hO.cls
    rw [hvm] at h9
    exact h9
  have hall : s.sameButNew ({ U with vm := s.vm } : State) locs mc ms := by
    subst hA
    obtain ⟨e1, e2⟩ := hsame
    rw [State.setFrames_setFrames] at e1
    have h2 : (T.setVm s.vm).sameButNew ({ U with vm := s.vm } : State) [] (0 + 1) (0 + 6) := ⟨e1, e2⟩
    have h3 := X.same.trans h2
    rw [List.append_nil] at h3
    exact h3.mono hc hs
  refine ⟨U, ?_, .threw T.heap.size, hrun, hend, Or.inr ⟨T.heap.size, rfl, cls, ce, locs, hx U hWs.alike f1 (fun q hq => f2 q hq (fun z hz => nomatch hz)), hce, hO.vm, hcl, hWs, hall, hf⟩⟩
  refine st1 _ ?_
  show Steps p.tables e below (T1.setTop { method := m, pc := pc + 3, locals := ls, stack := .ref T.heap.size :: rest, locked := none }) _
  jvm_step X₁.here [X₁.here.top, hexec, d3', Value.category]
  exact X₁.ldcString hexec (own := own) (text := text) (index := is) (a := sa) hown' hstr'.1 hstr'.2
    (g := { method := m, pc := pc + 4, locals := ls, stack := .ref T.heap.size :: .ref T.heap.size :: rest, locked := none }) rfl d4' _ hsteps
/-- 'throw new E("text")', the text by a wide index -/
theorem vx_throwSW {cc : ByteArray} {pc : Nat} (hexec : p.tables.exec = Jvm.exec) (hb : c.code = cc) (hl : l.stackTraces = false) {own cls text : String} {names : List String} {ik is ic mc ms sa : Nat} {A : Nat → Prop}
    (hown : s.vm.findClass own = some m.cls) (hcls : Bundle.fit cls = true) (hnames : ∀ n ∈ names, Bundle.fit n = true)
    (hk : (Cond.classLink own ik cls).before args s = true) (hini : (Cond.initialized cls).before args s = true) (hstr : vk_R own is text sa s) (hat : ∀ w ∈ vx_atS own ic cls names, w.before args s = true)
    (hgood : ∀ w ∈ Cond.classLink own ik cls :: Cond.initialized cls :: vx_atS own ic cls names, vx_ot w = true)
    (hU : vx_Zq Bundle.tN "UNASSIGNED_STACK" Bundle.steD A s s.heap) (hN : vx_Zq Bundle.tN "SUPPRESSED_SENTINEL" Bundle.listD A s s.heap) (hS : va_S A s.heap H locs) (hsize : ls.size = c.maxLocals)
    (d0 : decode cc pc = .ok (.new ik, 3)) (d3 : decode cc (pc + 3) = .ok (.dup, 1)) (d4 : decode cc (pc + 4) = .ok (.ldc_w is, 3)) (d7 : decode cc (pc + 7) = .ok (.invokespecial ic, 3)) (d10 : decode cc (pc + 10) = .ok (.athrow, 1))
    (hout : ∀ x ∈ c.exceptionTable.toList, covers x (pc + 10) = false)
    (hRframes : names.length + 3 < R.frames) (hRlocals : (rest.map fun v => v.category).sum + (13 * (names.length + 1) + 43) ≤ R.locals) (hRcells : cells + 1 ≤ R.cells) (hRslots : slots + 6 ≤ R.slots) (hlocks : meth.locks = false)
    (hx : ∀ t : State, s.vm.Alike t.vm → H.size ≤ t.heap.size → (∀ q : Nat, q < H.size → t.heap[q]? = H[q]?) → XC cls s t)
    (hf : ∀ z ∈ locs, free z.base) (hc : cells + 1 ≤ mc) (hs : slots + 6 ≤ ms) :
    W p l e R s m args below meth c H locs cells slots (vx_MQ below Qc XC args s mc ms free) (F0 m pc ls rest) := by
  intro T hT X
  have htr : e.platform.stackTraces = false := (show e.platform.stackTraces = l.stackTraces by rw [X.admits.platform]).trans hl
  have Y := vx_rebase X (R' := { frames := R.frames, locals := R.locals, cells := 1, slots := 6 }) (Nat.le_refl _) (Nat.le_refl _) hRcells hRslots
  obtain ⟨s', hA⟩ : ∃ z, z = (T.setVm s.vm).setFrames (.invoking m args :: below) := ⟨_, rfl⟩
  rw [← hA] at Y
  have hvm : s'.vm = s.vm := by rw [hA]; rfl
  have hhp : s'.heap = H := by rw [hA]; exact hT
  have hW0 : s.WarmedH s'.vm := by rw [hvm]; exact State.WarmedH.refl s
  have hat' : ∀ w ∈ vx_atS own ic cls names, w.before args s' = true := fun w hw => vx_ot_at hW0 hvm.symm (hgood w (List.mem_cons_of_mem _ (List.mem_cons_of_mem _ hw))) (hat w hw)
  have hk' : (Cond.classLink own ik cls).before args s' = true := vx_ot_at hW0 hvm.symm (hgood _ List.mem_cons_self) hk
  have hini' : (Cond.initialized cls).before args s' = true := vx_ot_at hW0 hvm.symm (hgood _ (List.mem_cons_of_mem _ List.mem_cons_self)) hini
  have hU' : vx_Zq Bundle.tN "UNASSIGNED_STACK" Bundle.steD A s' s'.heap := by rw [hhp]; exact vx_Zq.moved hW0.alike (hU.kept hS.2.1)
  have hN' : vx_Zq Bundle.tN "SUPPRESSED_SENTINEL" Bundle.listD A s' s'.heap := by rw [hhp]; exact vx_Zq.moved hW0.alike (hN.kept hS.2.1)
  have h : ∀ w ∈ Bundle.ownAtoms own ic cls names, w.before args s' = true := vx_own hat' (vx_isRefq hU'.1) (vx_isRefq hN'.1) hU'.2.word hN'.2.word
  have hown' : s'.vm.findClass own = some m.cls := by rw [hvm]; exact hown
  have hins : (Cond.instantiable cls 6).before args s' = true := h _ (by simp [Bundle.ownAtoms])
  obtain ⟨vm₁, cX, kX, hfX, hkX, -, -, X₁, st1⟩ := Y.newCold hexec (own := own) (C := cls) (index := ik) (n := 6) hown' hk' hins hini'
    (g := F0 m pc ls rest) rfl (by rw [hb]; exact d0) (Nat.le_refl _) (Nat.le_refl _)
  generalize hT1 : (T.setVm vm₁).pushCell { cls := cX, slots := kX.instanceTypes.map defaultValue, vm := .none } = T1 at X₁ st1
  have hcat : (Value.ref T.heap.size).category = 1 := rfl
  have hcellA : T1.heap[T.heap.size]? = some (freshCell cX kX) := by rw [← hT1]; exact State.heap_pushCell_size _ _
  have d3' : decode c.code (pc + 3) = .ok (.dup, 1) := by rw [hb]; exact d3
  have d4' : decode c.code (pc + 4) = .ok (.ldc_w is, 3) := by rw [hb]; exact d4
  have hstr' : vk_R own is text sa s' := vk_R.warm hW0 hstr
  obtain ⟨U, hsteps, hrun, hend, hW, hsame, ce, hce, hO⟩ := X₁.ctorThrowS hexec htr (own := own) (cls := cls) (names := names) (ic := ic) hown' hcls hnames h (fun x hx => nomatch hx) hfX hkX hcellA (by rw [hhp, hT]; exact Nat.le_refl _) (msg := .ref sa) rfl
    (g := { method := m, pc := pc + 7, locals := ls, stack := .ref sa :: .ref T.heap.size :: .ref T.heap.size :: rest, locked := none }) rfl hsize rfl rfl (rest := rest) rfl
    (by rw [hb]; exact d7) (by rw [hb]; exact d10) hout hRframes (by simp only [List.map_cons, List.sum_cons, hcat]; omega) hlocks
  obtain ⟨f1, f2⟩ := vx_frame hsame
  rw [hhp] at f1 f2
  have hWs : s.WarmedH U.vm := State.WarmedH.trans hW0 hW
  have hcl : s.vm.findClass cls = some ce.cls := by
    have h9 := hO.cls
    rw [hvm] at h9
    exact h9
  have hall : s.sameButNew ({ U with vm := s.vm } : State) locs mc ms := by
    subst hA
    obtain ⟨e1, e2⟩ := hsame
    rw [State.setFrames_setFrames] at e1
    have h2 : (T.setVm s.vm).sameButNew ({ U with vm := s.vm } : State) [] (0 + 1) (0 + 6) := ⟨e1, e2⟩
    have h3 := X.same.trans h2
    rw [List.append_nil] at h3
    exact h3.mono hc hs
  refine ⟨U, ?_, .threw T.heap.size, hrun, hend, Or.inr ⟨T.heap.size, rfl, cls, ce, locs, hx U hWs.alike f1 (fun q hq => f2 q hq (fun z hz => nomatch hz)), hce, hO.vm, hcl, hWs, hall, hf⟩⟩
  refine st1 _ ?_
  show Steps p.tables e below (T1.setTop { method := m, pc := pc + 3, locals := ls, stack := .ref T.heap.size :: rest, locked := none }) _
  jvm_step X₁.here [X₁.here.top, hexec, d3', Value.category]
  exact X₁.ldcStringW hexec (own := own) (text := text) (index := is) (a := sa) hown' hstr'.1 hstr'.2
    (g := { method := m, pc := pc + 4, locals := ls, stack := .ref T.heap.size :: .ref T.heap.size :: rest, locked := none }) rfl d4' _ hsteps
end Ends
section Bodies
variable {l : Launch}
theorem vx_ofW {y : MethodName} {ws ws' : List Cond} {rm : Room} {Pc : Array Value → State → Prop} {Qc : Array Value → State → Outcome → State → Prop} {XC : String → State → State → Prop} {mc ms : Nat} {free : Addr → Prop} {cc : ByteArray} {maxL : Nat} {ret : Option FieldType}
    (hy : plainName y.cls = true) (hw : ws = Cond.code y cc maxL ret :: ws')
    (body : ∀ p e s m args below meth c s₁, BodyLoose p l y (headSpec ws rm) cc maxL ret e s m args below meth c s₁ → c.maxLocals = maxL → (∀ x ∈ c.exceptionTable.toList, False) → Pc args s →
      W p l e (headSpec ws rm).room s m args below meth c s.heap [] 0 0 (vx_MQ below Qc XC args s mc ms free) (entryFrame m args maxL)) : vx_Met l y ws rm Pc Qc XC mc ms free := by
  refine MetFree.of_bodyS (code := cc) (maxLocals := maxL) (ret := ret) hy ?_ ?_
  · intro args s m h hn
    obtain ⟨meth, c, h1, h2, h3, h4, h5, h6, -, -⟩ := Cond.code_spec hn (atoms_spec (ws := ws) h _ (by rw [hw]; exact List.mem_cons_self))
    exact ⟨meth, c, h1, h2, h3, h4, h5, h6⟩
  · intro p e s m args below meth c s₁ B hml hP _
    have hh0 : s₁.heap = s.heap := by rw [B.state]; rfl
    have ht : ∀ x ∈ c.exceptionTable.toList, False := by
      obtain ⟨meth9, c9, h1, h2, -, -, -, -, h7, -⟩ := Cond.code_spec B.named (atoms_spec (ws := ws) B.pre _ (by rw [hw]; exact List.mem_cons_self))
      cases Option.some.inj (h1.symm.trans B.method)
      cases Option.some.inj (h2.symm.trans (Stand.of_body B).code)
      intro x hx
      rw [Array.isEmpty_iff.mp h7] at hx
      cases hx
    obtain ⟨t, a1, o, b1, b2, b3⟩ := body p e s m args below meth c s₁ B hml ht hP s₁ hh0 (Stand.of_body B)
    exact ⟨t, o, a1, b1, b2, b3⟩
/-- the table of a body with handlers -/
theorem vx_table {p : Program} {x y : MethodName} {S : Spec} {cc bytes : ByteArray} {maxL maxL' : Nat} {ret ret' : Option FieldType} {e : Env} {s s₁ : State} {m : MethodId} {args : Array Value} {below : List Frame} {meth : Method} {c : Code} {hh : List (Nat × Nat × Nat × Nat)}
    (B : BodyLoose p l y S cc maxL ret e s m args below meth c s₁) (h : (Cond.codeWith y bytes maxL' ret' hh).before args s = true) : c.exceptionTable.toList = tableOf hh := by
  obtain ⟨m9, meth9, c9, hn9, h1, h2, -, -, h6, -⟩ := Cond.codeWith_spec h
  cases Option.some.inj (hn9.symm.trans B.named)
  cases Option.some.inj (h1.symm.trans B.method)
  cases Option.some.inj (h2.symm.trans (Stand.of_body B).code)
  rw [← h6, table_eq]
end Bodies
end VXA
/-! ===== END ===== -/
/-! ===== BEGIN a static call of a method with an exception table ===== -/
section VXS
variable {p : Program} {l : Launch} {e : Env} {R : Room} {s : State} {m : MethodId} {args : Array Value} {below : List Frame} {meth : Method} {c : Code} {T : State} {H : Heap} {locs : List Loc} {cells slots : Nat}
abbrev vx_CSW (R : Room) (s : State) (args : Array Value) (own : String) (index : Nat) (y : MethodName) (bytes : ByteArray) (maxL : Nat) (ret : Option FieldType) (hh : List (Nat × Nat × Nat × Nat)) (ws : List Cond) (rm : Room) (mc ms n : Nat) : Prop :=
  (rm.cells = mc ∧ rm.slots = ms ∧ rm.frames + 1 ≤ R.frames ∧ 8 + (maxL + 11) + rm.locals ≤ R.locals ∧ (∀ w ∈ ws, ∀ (a' : Array Value) (U : State), s.WarmedH U.vm → w.before a' U = true) ∧ Cond.codeWith y bytes maxL ret hh ∈ ws) ∧
  (Cond.codeWith y bytes maxL ret hh).before args s = true ∧ (Cond.initialized y.cls).before args s = true ∧ (y.cls ≠ "java/lang/invoke/MethodHandle" ∧ y.cls ≠ "java/lang/invoke/VarHandle") ∧
  (∀ sig, parseMethodDescriptor y.desc = some sig → n = sig.parameters.length) ∧ (Cond.methodLink own index y).before args s = true ∧ (Cond.static y).before args s = true
theorem vx_cwSW {own : String} {index maxL mc ms : Nat} {y : MethodName} {bytes : ByteArray} {ret : Option FieldType} {hh : List (Nat × Nat × Nat × Nat)} {Ts ws ws' : List Cond} {rm : Room} (n : Nat) (ht : ∀ w ∈ Ts, w.before args s = true) (hT : GoodIn Ts (va_wsS own index y ws)) (hw : ws = Cond.codeWith y bytes maxL ret hh :: ws') (hrc : rm.cells = mc) (hrs : rm.slots = ms)
    (hd : y.cls ≠ "java/lang/invoke/MethodHandle" ∧ y.cls ≠ "java/lang/invoke/VarHandle" ∧ (parseMethodDescriptor y.desc).map (fun d => d.parameters.length) = some n) (hR : rm.frames + 1 ≤ R.frames ∧ 8 + (maxL + 11) + rm.locals ≤ R.locals) :
    vx_CSW R s args own index y bytes maxL ret hh ws rm mc ms n := by
  have ok : ∀ w ∈ va_wsS own index y ws, w.before args s = true := fun w h => ht w (hT w h).1
  have hG : GoodIn Ts ws := fun w h => hT w (by unfold va_wsS; exact List.mem_append_right _ h)
  have hc : Cond.codeWith y bytes maxL ret hh ∈ ws := by rw [hw]; exact List.mem_cons_self
  refine ⟨⟨hrc, hrs, hR.1, hR.2, pay_in ht hG, hc⟩, ht _ (hG _ hc).1, ok _ (by simp [va_wsS]), ⟨hd.1, hd.2.1⟩, fun sig h => ?_, ok _ (by simp [va_wsS]), ok _ (by simp [va_wsS])⟩
  have h2 := hd.2.2
  rw [h] at h2
  exact (Option.some.inj h2).symm
theorem vx_callSW (X : Stand p l e R s m args below meth c T locs cells slots) (hexec : p.tables.exec = Jvm.exec) {own : String} {index : Nat} {y : MethodName} {bytes : ByteArray} {maxL : Nat} {ret : Option FieldType} {hh : List (Nat × Nat × Nat × Nat)}
    (hown : s.vm.findClass own = some m.cls) (hlink : (Cond.methodLink own index y).before args s = true) (hstat : (Cond.static y).before args s = true) (hinit : (Cond.initialized y.cls).before args s = true)
    (hcode : (Cond.codeWith y bytes maxL ret hh).before args s = true) (hy : y.cls ≠ "java/lang/invoke/MethodHandle" ∧ y.cls ≠ "java/lang/invoke/VarHandle")
    {W9 : Nat} {Pre : Pt → Array Value → Prop} {Post : Pt → Array Value → Option Value → Pt → Prop} (hK : Back l R p e below s args y 3 W9 Pre Post)
    {g : JFrame} (hg : g.method = m) (hsize : g.locals.size = c.maxLocals) {argsL rest : List Value} (hlen : ∀ sig, parseMethodDescriptor y.desc = some sig → argsL.length = sig.parameters.length)
    (hstack : g.stack = argsL.reverse ++ rest) (hW : 2 * g.monitorRoom + (rest.map fun v => v.category).sum ≤ W9) (hdg : decode c.code g.pc = .ok (.invokestatic index, 3))
    (hpre : ∀ vm₁, s.WarmedH vm₁ → Pre ⟨T.setVm vm₁, locs, cells, slots⟩ argsL.toArray) :
    ∃ (v : Option Value) (vm₁ : Vm) (B : Pt), s.WarmedH vm₁ ∧ Stand p l e R s m args below meth c B.U B.locs B.cells B.slots ∧ Post ⟨T.setVm vm₁, locs, cells, slots⟩ argsL.toArray v B ∧
      ∀ target, Steps p.tables e below (B.U.setTop { g with pc := g.pc + 3, stack := v.toList ++ rest }) target → Steps p.tables e below (T.setTop g) target := by
  obtain ⟨mk, methM, cM, hnamed, hmethM, -, -, -, -, -, -, hsigM⟩ := Cond.codeWith_spec hcode
  have hstatic : methM.isStatic = true := Cond.static_spec hnamed hmethM hstat
  obtain ⟨kP, hkP, -⟩ := className_of_methodNamed hnamed
  have hinitP : kP.init = .initialized := Cond.initialized_spec (findClass_of_methodNamed hnamed) hkP hinit
  obtain ⟨vm₁, X₁, hstep₁⟩ := X.invokestatic hexec hown hlink hnamed hmethM hstatic hkP hinitP hy (g := g) hg (argsL := argsL) (rest := rest) (hlen _ hsigM) hstack hdg
  obtain ⟨v, B, X', hpost, hsteps⟩ := hK m meth c ⟨T.setVm vm₁, locs, cells, slots⟩ { g with stack := rest } (.invokestatic index) mk argsL.toArray X₁ hg hsize hdg hW (X₁.named hnamed) (hpre vm₁ X₁.warmed)
  exact ⟨v, vm₁, B, X₁.warmed, X', hpost, fun target h => hstep₁ _ fun acts => by rw [doInvoke_state]; exact hsteps.trans h⟩
theorem vx_runSW {y : MethodName} {bytes cc : ByteArray} {maxL nL mc ms n index : Nat} {ret : Option FieldType} {hh : List (Nat × Nat × Nat × Nat)} {ws : List Cond} {rm : Room} {Pc : Array Value → State → Prop} {Qc : Array Value → State → Outcome → State → Prop} {free : Addr → Prop} {Ts : List Cond} {own : String} {As rest : List Value} {g : JFrame}
    (S : CallFix p m c cc nL s args Ts own) (hM : Met l y ws rm Pc Qc mc ms free) (cw : vx_CSW R s args own index y bytes maxL ret hh ws rm mc ms n) (hp : PreS s H Pc As)
    (hg : g.method = m) (hn : As.length = n) (hsize : g.locals.size = nL) (hstack : g.stack = As.reverse ++ rest) (hW : 2 * g.monitorRoom + (rest.map fun v => v.category).sum ≤ 8) (hdg : decode cc g.pc = .ok (.invokestatic index, 3)) (hf : cells + mc ≤ R.cells ∧ slots + ms ≤ R.slots) :
    va_Run p l e R s m args below meth c H locs cells slots mc ms g rest (Qc As.toArray) (free) := by
  obtain ⟨⟨hrc, hrs, hfr, hlo, hws, hcw⟩, hcode, hini, hy, hlen, hl, hstt⟩ := cw
  have hK : Back l R p e below s args y 3 8 (PreOf R mc ms Pc) (PostOf Qc mc ms free) := va_backW (hh := hh) (bytes := bytes) (maxL := maxL) (ret := ret) hM hp.1 hrc hrs hfr hlo hws hcw (fun a' U hW => word_at hW (Or.inl (by first | rfl | simp [Cond.onTables, Cond.keeps, Cond.steady])) hini)
  obtain ⟨hx, hb, hml, ho, -⟩ := S
  intro T hT X
  obtain ⟨v, vm₁, ⟨U', l2, c2, s2⟩, hW₁, X', ⟨g', mk, t, L, e1, e2, hq, h1, hL, h2, h3⟩, st⟩ := vx_callSW X hx (hh := hh) (bytes := bytes) (maxL := maxL) (ret := ret) ho hl hstt hini hcode hy hK hg (hsize.trans hml.symm) (argsL := As) (rest := rest) (fun sig h => hn.trans (hlen sig h)) hstack hW (by rw [hb]; exact hdg)
    (fun vm₁ hW₁ => ⟨hf.1, hf.2, hp.2 (T.setVm vm₁) hT hW₁⟩)
  dsimp only [Pt.U, Pt.locs, Pt.cells, Pt.slots] at X' e1 e2 h1 h2 h3 st
  subst h1; subst h2; subst h3
  exact ⟨v, (T.setVm vm₁).calling g' mk As.toArray, t, U', L, hT, X', hL, e1, e2, hq, st⟩
/-- a thing of a world lies in the heap -/
theorem vx_lt {D : va_G} {cl : List vw_C} {ws : va_W} {H1 : Heap} (h : va_P D cl ws H1) {k : Nat} {q : Nat × va_E} (hk : ws[k]? = some q) : q.1 < H1.size := (h k q hk).lt
end VXS
/-! ===== END ===== -/
/-! ===== BEGIN methods with a table of their own: called by a name, returning or throwing ===== -/
section VXH
/-! vx_backW, vx_callVX, vx_callSX, vx_callVW, vx_runVW, vx_runVX, vx_runSX, vx_ofWH follow the same proofs as their sisters above (Free/Laws.lean, Shelf42/LK1.lean); vx_outP calls Shelf42/NT130.lean (outThrough). -/
section
variable {l : Launch} {R : Room} {p : Program} {e : Env} {below : List Frame} {s : State} {sargs : Array Value} {y : MethodName} {len W9 : Nat}
theorem vx_backW {ws : List Cond} {rm : Room} {Pc : Array Value → State → Prop} {Qc : Array Value → State → Outcome → State → Prop} {XC : String → State → State → Prop} {mc ms : Nat} {free : Addr → Prop} {bytes : ByteArray} {maxL : Nat} {ret : Option FieldType} {hh : List (Nat × Nat × Nat × Nat)}
    (hM : vx_Met l y ws rm Pc Qc XC mc ms free) (hblind : FrameBlind Pc) (hrc : rm.cells = mc) (hrs : rm.slots = ms)
    (hframes : rm.frames + 1 ≤ R.frames) (hlocals : W9 + (maxL + 11) + rm.locals ≤ R.locals)
    (hws : ∀ w ∈ ws, ∀ a' U, s.WarmedH U.vm → w.before a' U = true) (hcode : Cond.codeWith y bytes maxL ret hh ∈ ws) (hinit : ∀ a' U, s.WarmedH U.vm → (Cond.initialized y.cls).before a' U = true) :
    vx_Back l R p e below s sargs y len W9 (PreOf R mc ms Pc) (PostOf Qc mc ms free) (vx_Post XC mc ms free) := by
  intro m meth c A g ig mk a X hg hsize hdg hW hn hp
  have h1 : (headSpec ws rm).pre.before a A.U = true := atoms_intro fun w hw => hws w hw _ _ X.warmed
  have h2 : (Cond.codeWith y bytes maxL ret hh).before a A.U = true := hws _ hcode _ _ X.warmed
  have h3 : (Cond.initialized y.cls).before a A.U = true := hinit _ _ X.warmed
  have h4 : A.cells + (headSpec ws rm).room.cells ≤ R.cells := by rw [show (headSpec ws rm).room.cells = mc from hrc]; exact hp.1
  have h5 : A.slots + (headSpec ws rm).room.slots ≤ R.slots := by rw [show (headSpec ws rm).room.slots = ms from hrs]; exact hp.2.1
  have hPc : Pc a (A.U.calling g mk a) := hblind _ _ _ _ hp.2.2
  obtain ⟨U, Ls, c0, s0⟩ := A
  dsimp only [Pt.U, Pt.locs, Pt.cells, Pt.slots] at h1 h2 h3 h4 h5 X hn hPc ⊢
  obtain ⟨m9, methY, cY, hn9, hmY, hcY, -, hlY, -⟩ := Cond.codeWith_spec h2
  cases Option.some.inj (hn9.symm.trans hn)
  obtain ⟨kY, hkY, -⟩ := className_of_methodNamed hn
  have hinitY : kY.init = .initialized := Cond.initialized_spec (findClass_of_methodNamed hn) hkY h3
  have h : At U g.method c below := by rw [hg]; exact X.here
  have hlocals9 : W9 + (maxL + 11) + (headSpec ws rm).room.locals ≤ R.locals := hlocals
  have happ : (headSpec ws rm).appliesLoose y e.platform (U.calling g mk a) = true :=
    Spec.appliesLoose_calling (g := g) h hdg hn hkY hinitY
      (X.room_calling (g := g) (R' := (headSpec ws rm).room) hsize hmY hcY hframes (by rw [hlY]; omega) h4 h5) h1
  obtain ⟨mid, hmid⟩ := h.above
  have hfr : (U.setTop g).frames = (.java g :: mid) ++ below := by rw [State.frames_setTop' g h.top, hmid]; rfl
  obtain ⟨o, s₂, hsteps, -, hend, hq⟩ := Steps.callFree hM p X.admits X.cas X.clock (acts := []) hfr happ hPc trivial
  have hq' : vx_Q Qc XC mc ms free a (U.calling g mk a) o s₂ := hq
  rw [State.frames_setTop' g h.top] at hend
  obtain ⟨g₀, hg0⟩ := Option.isSome_iff_exists.mp h.top
  obtain ⟨r, hr⟩ := State.topJava?_eq_some.mp hg0
  have hr' : (({ U with heap := s₂.heap, slotsUsed := s₂.slotsUsed } : State).setVm s₂.vm).frames = .java g₀ :: r := hr
  rcases hq' with ⟨hqc, L, hfe, hL⟩ | ⟨q, rfl, E, ce, L, hx, hce, hcv, hcl, hW₂, hsm, hL⟩
  · obtain ⟨⟨v, rfl⟩, hW₂, e2, q2, q3, q4, q5, q6⟩ := id hfe
    have e3 : s₂ = ({ (U.calling g mk a).setFrames s₂.frames with heap := s₂.heap, slotsUsed := s₂.slotsUsed } : State).setVm s₂.vm := by
      have : s₂ = ({ s₂ with vm := (U.calling g mk a).vm } : State).setVm s₂.vm := rfl
      rw [e2] at this
      exact this
    obtain ⟨c₂, i₂, len₂, hc₂, hd₂, hf₂⟩ := hend
    have hW' : U.WarmedH s₂.vm := hW₂
    have hcc : c₂ = c := by
      have h1 : s₂.code? g.method = U.code? g.method := by
        rw [State.code?_eq, State.code?_eq, hW'.alike.method?]
      exact Option.some.inj (hc₂.symm.trans (h1.trans h.code))
    subst hcc
    have hlen : len₂ = len := by rw [hdg] at hd₂; cases hd₂; rfl
    subst hlen
    have hs₂ : s₂ = (({ U with heap := s₂.heap, slotsUsed := s₂.slotsUsed } : State).setVm s₂.vm).setTop { g with pc := g.pc + len₂, stack := v.toList ++ g.stack } := by
      refine e3.trans ?_
      rw [hf₂, State.calling_eq h.top, State.setFrames_setFrames, State.setTop_of_frames _ hr', hr]
      rfl
    have hsame : U.sameButNew ({ U with heap := s₂.heap, slotsUsed := s₂.slotsUsed } : State) L mc ms := by
      refine ⟨?_, q2, q3, q4, q5, q6⟩
      obtain ⟨t, ht, -⟩ := State.frames_cons hr
      show ({ U with heap := s₂.heap, slotsUsed := s₂.slotsUsed } : State) = { U.setFrames U.frames with heap := s₂.heap, slotsUsed := s₂.slotsUsed }
      rw [State.setFrames_self ht]
    subst hg
    refine Or.inl ⟨v, ⟨(({ U with heap := s₂.heap, slotsUsed := s₂.slotsUsed } : State).setVm s₂.vm), Ls ++ L, c0 + mc, s0 + ms⟩,
      ⟨X.admits, X.cas, X.clock, X.frames, X.room, X.hears, X.method, X.code, (X.here.setHeapUsed s₂.heap s₂.slotsUsed).setVm hW'.alike, X.tail, State.WarmedH.trans X.warmed hW', X.limits, X.bytes, X.same.trans (hsame.setVm s.vm)⟩,
      ⟨g, mk, s₂, L, rfl, rfl, hqc, rfl, hL, rfl, rfl⟩, ?_⟩
    show Steps p.tables e below _ ((({ U with heap := s₂.heap, slotsUsed := s₂.slotsUsed } : State).setVm s₂.vm).setTop { g with pc := g.pc + len₂, stack := v.toList ++ g.stack })
    rw [← hs₂]
    exact hsteps
  · obtain ⟨e2, q2, q3, q4, q5, q6⟩ := id hsm
    have e3 : s₂ = ({ (U.calling g mk a).setFrames s₂.frames with heap := s₂.heap, slotsUsed := s₂.slotsUsed } : State).setVm s₂.vm := by
      have : s₂ = ({ s₂ with vm := (U.calling g mk a).vm } : State).setVm s₂.vm := rfl
      rw [e2] at this
      exact this
    have hf₂ : s₂.frames = .throwing q :: .java g :: U.frames.tail := hend
    have hW' : U.WarmedH s₂.vm := hW₂
    have hs₂ : s₂ = ((({ U with heap := s₂.heap, slotsUsed := s₂.slotsUsed } : State).setVm s₂.vm).setTop g).pushFrame (.throwing q) := by
      refine e3.trans ?_
      rw [hf₂, State.calling_eq h.top, State.setFrames_setFrames, State.pushFrame, State.frames_setTop _ hr', State.setTop_of_frames _ hr', State.setFrames_setFrames, hr]
      rfl
    have hsame : U.sameButNew ({ U with heap := s₂.heap, slotsUsed := s₂.slotsUsed } : State) L mc ms := by
      refine ⟨?_, q2, q3, q4, q5, q6⟩
      obtain ⟨t, ht, -⟩ := State.frames_cons hr
      show ({ U with heap := s₂.heap, slotsUsed := s₂.slotsUsed } : State) = { U.setFrames U.frames with heap := s₂.heap, slotsUsed := s₂.slotsUsed }
      rw [State.setFrames_self ht]
    subst hg
    refine Or.inr ⟨q, ⟨(({ U with heap := s₂.heap, slotsUsed := s₂.slotsUsed } : State).setVm s₂.vm), Ls ++ L, c0 + mc, s0 + ms⟩,
      ⟨X.admits, X.cas, X.clock, X.frames, X.room, X.hears, X.method, X.code, (X.here.setHeapUsed s₂.heap s₂.slotsUsed).setVm hW'.alike, X.tail, State.WarmedH.trans X.warmed hW', X.limits, X.bytes, X.same.trans (hsame.setVm s.vm)⟩,
      ⟨g, mk, s₂, L, E, ce, rfl, rfl, hx, hce, hcv, hcl, rfl, hL, rfl, rfl⟩, ?_⟩
    show Steps p.tables e below _ (((({ U with heap := s₂.heap, slotsUsed := s₂.slotsUsed } : State).setVm s₂.vm).setTop g).pushFrame (.throwing q))
    rw [← hs₂]
    exact hsteps
end
variable {p : Program} {l : Launch} {e : Env} {R : Room} {s : State} {m : MethodId} {args : Array Value} {below : List Frame} {meth : Method} {c : Code} {T : State} {H : Heap} {locs : List Loc} {cells slots : Nat}
theorem vx_callVX (X : Stand p l e R s m args below meth c T locs cells slots) (hexec : p.tables.exec = Jvm.exec) {own C : String} {index : Nat} {y : MethodName} {bytes : ByteArray} {maxL : Nat} {ret : Option FieldType} {hh : List (Nat × Nat × Nat × Nat)}
    (hown : s.vm.findClass own = some m.cls) (hlink : (Cond.methodLink own index y).before args s = true) (hinst : (Cond.instanceMethod y).before args s = true) (hsel : (Cond.selects C y y).before args s = true)
    (hcode : (Cond.codeWith y bytes maxL ret hh).before args s = true) (hy : y.cls ≠ "java/lang/invoke/MethodHandle" ∧ y.cls ≠ "java/lang/invoke/VarHandle")
    {W9 : Nat} {Pre : Pt → Array Value → Prop} {Post : Pt → Array Value → Option Value → Pt → Prop} {PostX : Pt → Array Value → Addr → Pt → Prop} (hK : vx_Back l R p e below s args y 3 W9 Pre Post PostX)
    {b : Addr} {cellB : Cell} (hcell : T.heap[b]? = some cellB) (hobj : cellB.vm.isStatics = false) (hcls : s.vm.findClass C = some cellB.cls)
    {g : JFrame} (hg : g.method = m) (hsize : g.locals.size = c.maxLocals) {argsL rest : List Value} (hlen : ∀ sig, parseMethodDescriptor y.desc = some sig → argsL.length = sig.parameters.length)
    (hstack : g.stack = argsL.reverse ++ .ref b :: rest) (hW : 2 * g.monitorRoom + (rest.map fun v => v.category).sum ≤ W9) (hdg : decode c.code g.pc = .ok (.invokevirtual index, 3))
    (hpre : ∀ vm₁, s.WarmedH vm₁ → Pre ⟨T.setVm vm₁, locs, cells, slots⟩ (Value.ref b :: argsL).toArray) :
    (∃ (v : Option Value) (vm₁ : Vm) (B : Pt), s.WarmedH vm₁ ∧ Stand p l e R s m args below meth c B.U B.locs B.cells B.slots ∧ Post ⟨T.setVm vm₁, locs, cells, slots⟩ (Value.ref b :: argsL).toArray v B ∧
      ∀ target, Steps p.tables e below (B.U.setTop { g with pc := g.pc + 3, stack := v.toList ++ rest }) target → Steps p.tables e below (T.setTop g) target) ∨
    (∃ (q : Addr) (vm₁ : Vm) (B : Pt), s.WarmedH vm₁ ∧ Stand p l e R s m args below meth c B.U B.locs B.cells B.slots ∧ PostX ⟨T.setVm vm₁, locs, cells, slots⟩ (Value.ref b :: argsL).toArray q B ∧
      Steps p.tables e below (T.setTop g) ((B.U.setTop { g with stack := rest }).pushFrame (.throwing q))) := by
  obtain ⟨mk, methM, hnamed, hmethM, hstM, habM⟩ := Cond.instanceMethod_spec hinst
  obtain ⟨m8, methM', cM, hn8, hmethM', -, -, -, -, -, -, hsigM⟩ := Cond.codeWith_spec hcode
  cases Option.some.inj (hn8.symm.trans hnamed)
  cases hmethM.symm.trans hmethM'
  obtain ⟨c2, r2, m2, q1, q2, q3, q4, kP, hkP, hkPi⟩ := Cond.selects_spec hsel
  cases hcls.symm.trans q1
  cases (State.methodFound?_of_named hnamed hy).symm.trans q2
  cases hnamed.symm.trans q3
  have hselP : selectMethod e.platform s.vm cellB.cls mk = .method mk := by rw [Launch.admits_selectMethod X.admits]; exact q4
  obtain ⟨vm₁, X₁, hstep₁⟩ := X.invokevirtual hexec hown hlink hnamed hmethM hstM hkP hkPi hy (a := b) (cell := cellB) hcell
    (fun z h => by rw [h] at hobj; cases hobj) hselP hmethM habM hkP hkPi (g := g) hg (argsL := argsL) (rest := rest) (hlen _ hsigM) hstack hdg
  rcases hK m meth c ⟨T.setVm vm₁, locs, cells, slots⟩ { g with stack := rest } (.invokevirtual index) mk (Value.ref b :: argsL).toArray X₁ hg hsize hdg hW (X₁.named hnamed) (hpre vm₁ X₁.warmed) with ⟨v, B, X', hpost, hsteps⟩ | ⟨q, B, X', hpost, hsteps⟩
  · exact Or.inl ⟨v, vm₁, B, X₁.warmed, X', hpost, fun target h => hstep₁ _ fun acts => by rw [doInvoke_state]; exact hsteps.trans h⟩
  · exact Or.inr ⟨q, vm₁, B, X₁.warmed, X', hpost, hstep₁ _ fun acts => by rw [doInvoke_state]; exact hsteps⟩
theorem vx_callSX (X : Stand p l e R s m args below meth c T locs cells slots) (hexec : p.tables.exec = Jvm.exec) {own : String} {index : Nat} {y : MethodName} {bytes : ByteArray} {maxL : Nat} {ret : Option FieldType} {hh : List (Nat × Nat × Nat × Nat)}
    (hown : s.vm.findClass own = some m.cls) (hlink : (Cond.methodLink own index y).before args s = true) (hstat : (Cond.static y).before args s = true) (hinit : (Cond.initialized y.cls).before args s = true)
    (hcode : (Cond.codeWith y bytes maxL ret hh).before args s = true) (hy : y.cls ≠ "java/lang/invoke/MethodHandle" ∧ y.cls ≠ "java/lang/invoke/VarHandle")
    {W9 : Nat} {Pre : Pt → Array Value → Prop} {Post : Pt → Array Value → Option Value → Pt → Prop} {PostX : Pt → Array Value → Addr → Pt → Prop} (hK : vx_Back l R p e below s args y 3 W9 Pre Post PostX)
    {g : JFrame} (hg : g.method = m) (hsize : g.locals.size = c.maxLocals) {argsL rest : List Value} (hlen : ∀ sig, parseMethodDescriptor y.desc = some sig → argsL.length = sig.parameters.length)
    (hstack : g.stack = argsL.reverse ++ rest) (hW : 2 * g.monitorRoom + (rest.map fun v => v.category).sum ≤ W9) (hdg : decode c.code g.pc = .ok (.invokestatic index, 3))
    (hpre : ∀ vm₁, s.WarmedH vm₁ → Pre ⟨T.setVm vm₁, locs, cells, slots⟩ argsL.toArray) :
    (∃ (v : Option Value) (vm₁ : Vm) (B : Pt), s.WarmedH vm₁ ∧ Stand p l e R s m args below meth c B.U B.locs B.cells B.slots ∧ Post ⟨T.setVm vm₁, locs, cells, slots⟩ argsL.toArray v B ∧
      ∀ target, Steps p.tables e below (B.U.setTop { g with pc := g.pc + 3, stack := v.toList ++ rest }) target → Steps p.tables e below (T.setTop g) target) ∨
    (∃ (q : Addr) (vm₁ : Vm) (B : Pt), s.WarmedH vm₁ ∧ Stand p l e R s m args below meth c B.U B.locs B.cells B.slots ∧ PostX ⟨T.setVm vm₁, locs, cells, slots⟩ argsL.toArray q B ∧
      Steps p.tables e below (T.setTop g) ((B.U.setTop { g with stack := rest }).pushFrame (.throwing q))) := by
  obtain ⟨mk, methM, cM, hnamed, hmethM, -, -, -, -, -, -, hsigM⟩ := Cond.codeWith_spec hcode
  have hstatic : methM.isStatic = true := Cond.static_spec hnamed hmethM hstat
  obtain ⟨kP, hkP, -⟩ := className_of_methodNamed hnamed
  have hinitP : kP.init = .initialized := Cond.initialized_spec (findClass_of_methodNamed hnamed) hkP hinit
  obtain ⟨vm₁, X₁, hstep₁⟩ := X.invokestatic hexec hown hlink hnamed hmethM hstatic hkP hinitP hy (g := g) hg (argsL := argsL) (rest := rest) (hlen _ hsigM) hstack hdg
  rcases hK m meth c ⟨T.setVm vm₁, locs, cells, slots⟩ { g with stack := rest } (.invokestatic index) mk argsL.toArray X₁ hg hsize hdg hW (X₁.named hnamed) (hpre vm₁ X₁.warmed) with ⟨v, B, X', hpost, hsteps⟩ | ⟨q, B, X', hpost, hsteps⟩
  · exact Or.inl ⟨v, vm₁, B, X₁.warmed, X', hpost, fun target h => hstep₁ _ fun acts => by rw [doInvoke_state]; exact hsteps.trans h⟩
  · exact Or.inr ⟨q, vm₁, B, X₁.warmed, X', hpost, hstep₁ _ fun acts => by rw [doInvoke_state]; exact hsteps⟩
theorem vx_callVW (X : Stand p l e R s m args below meth c T locs cells slots) (hexec : p.tables.exec = Jvm.exec) {own C : String} {index : Nat} {y : MethodName} {bytes : ByteArray} {maxL : Nat} {ret : Option FieldType} {hh : List (Nat × Nat × Nat × Nat)}
    (hown : s.vm.findClass own = some m.cls) (hlink : (Cond.methodLink own index y).before args s = true) (hinst : (Cond.instanceMethod y).before args s = true) (hsel : (Cond.selects C y y).before args s = true)
    (hcode : (Cond.codeWith y bytes maxL ret hh).before args s = true) (hy : y.cls ≠ "java/lang/invoke/MethodHandle" ∧ y.cls ≠ "java/lang/invoke/VarHandle")
    {W9 : Nat} {Pre : Pt → Array Value → Prop} {Post : Pt → Array Value → Option Value → Pt → Prop} (hK : Back l R p e below s args y 3 W9 Pre Post)
    {b : Addr} {cellB : Cell} (hcell : T.heap[b]? = some cellB) (hobj : cellB.vm.isStatics = false) (hcls : s.vm.findClass C = some cellB.cls)
    {g : JFrame} (hg : g.method = m) (hsize : g.locals.size = c.maxLocals) {argsL rest : List Value} (hlen : ∀ sig, parseMethodDescriptor y.desc = some sig → argsL.length = sig.parameters.length)
    (hstack : g.stack = argsL.reverse ++ .ref b :: rest) (hW : 2 * g.monitorRoom + (rest.map fun v => v.category).sum ≤ W9) (hdg : decode c.code g.pc = .ok (.invokevirtual index, 3))
    (hpre : ∀ vm₁, s.WarmedH vm₁ → Pre ⟨T.setVm vm₁, locs, cells, slots⟩ (Value.ref b :: argsL).toArray) :
    ∃ (v : Option Value) (vm₁ : Vm) (B : Pt), s.WarmedH vm₁ ∧ Stand p l e R s m args below meth c B.U B.locs B.cells B.slots ∧ Post ⟨T.setVm vm₁, locs, cells, slots⟩ (Value.ref b :: argsL).toArray v B ∧
      ∀ target, Steps p.tables e below (B.U.setTop { g with pc := g.pc + 3, stack := v.toList ++ rest }) target → Steps p.tables e below (T.setTop g) target := by
  obtain ⟨mk, methM, hnamed, hmethM, hstM, habM⟩ := Cond.instanceMethod_spec hinst
  obtain ⟨m8, methM', cM, hn8, hmethM', -, -, -, -, -, -, hsigM⟩ := Cond.codeWith_spec hcode
  cases Option.some.inj (hn8.symm.trans hnamed)
  cases hmethM.symm.trans hmethM'
  obtain ⟨c2, r2, m2, q1, q2, q3, q4, kP, hkP, hkPi⟩ := Cond.selects_spec hsel
  cases hcls.symm.trans q1
  cases (State.methodFound?_of_named hnamed hy).symm.trans q2
  cases hnamed.symm.trans q3
  have hselP : selectMethod e.platform s.vm cellB.cls mk = .method mk := by rw [Launch.admits_selectMethod X.admits]; exact q4
  obtain ⟨vm₁, X₁, hstep₁⟩ := X.invokevirtual hexec hown hlink hnamed hmethM hstM hkP hkPi hy (a := b) (cell := cellB) hcell
    (fun z h => by rw [h] at hobj; cases hobj) hselP hmethM habM hkP hkPi (g := g) hg (argsL := argsL) (rest := rest) (hlen _ hsigM) hstack hdg
  obtain ⟨v, B, X', hpost, hsteps⟩ := hK m meth c ⟨T.setVm vm₁, locs, cells, slots⟩ { g with stack := rest } (.invokevirtual index) mk (Value.ref b :: argsL).toArray X₁ hg hsize hdg hW (X₁.named hnamed) (hpre vm₁ X₁.warmed)
  exact ⟨v, vm₁, B, X₁.warmed, X', hpost, fun target h => hstep₁ _ fun acts => by rw [doInvoke_state]; exact hsteps.trans h⟩
abbrev vx_CVW (R : Room) (s : State) (args : Array Value) (own C : String) (index : Nat) (y : MethodName) (bytes : ByteArray) (maxL : Nat) (ret : Option FieldType) (hh : List (Nat × Nat × Nat × Nat)) (ws : List Cond) (rm : Room) (mc ms n : Nat) : Prop :=
  (rm.cells = mc ∧ rm.slots = ms ∧ rm.frames + 1 ≤ R.frames ∧ 8 + (maxL + 11) + rm.locals ≤ R.locals ∧ (∀ w ∈ ws, ∀ (a' : Array Value) (U : State), s.WarmedH U.vm → w.before a' U = true) ∧ Cond.codeWith y bytes maxL ret hh ∈ ws) ∧
  (Cond.codeWith y bytes maxL ret hh).before args s = true ∧ (Cond.initialized y.cls).before args s = true ∧ (y.cls ≠ "java/lang/invoke/MethodHandle" ∧ y.cls ≠ "java/lang/invoke/VarHandle") ∧
  (∀ sig, parseMethodDescriptor y.desc = some sig → n = sig.parameters.length) ∧ (Cond.methodLink own index y).before args s = true ∧ (Cond.instanceMethod y).before args s = true ∧ (Cond.selects C y y).before args s = true
theorem vx_cwVW {own C : String} {index maxL mc ms : Nat} {y : MethodName} {bytes : ByteArray} {ret : Option FieldType} {hh : List (Nat × Nat × Nat × Nat)} {Ts ws ws' : List Cond} {rm : Room} (n : Nat) (ht : ∀ w ∈ Ts, w.before args s = true) (hT : GoodIn Ts (wsV own index C y ws)) (hw : ws = Cond.codeWith y bytes maxL ret hh :: ws') (hrc : rm.cells = mc) (hrs : rm.slots = ms)
    (hd : y.cls = C ∧ y.cls ≠ "java/lang/invoke/MethodHandle" ∧ y.cls ≠ "java/lang/invoke/VarHandle" ∧ (parseMethodDescriptor y.desc).map (fun d => d.parameters.length) = some n) (hR : rm.frames + 1 ≤ R.frames ∧ 8 + (maxL + 11) + rm.locals ≤ R.locals) :
    vx_CVW R s args own C index y bytes maxL ret hh ws rm mc ms n := by
  obtain ⟨hC, hd⟩ := hd
  subst hC
  have ok : ∀ w ∈ wsV own index y.cls y ws, w.before args s = true := fun w h => ht w (hT w h).1
  have hG : GoodIn Ts ws := fun w h => hT w (by unfold wsV; exact List.mem_append_right _ h)
  have hc : Cond.codeWith y bytes maxL ret hh ∈ ws := by rw [hw]; exact List.mem_cons_self
  refine ⟨⟨hrc, hrs, hR.1, hR.2, pay_in ht hG, hc⟩, ht _ (hG _ hc).1, ok _ (by simp [wsV]), ⟨hd.1, hd.2.1⟩, fun sig h => ?_, ok _ (by simp [wsV]), ok _ (by simp [wsV]), ok _ (by simp [wsV])⟩
  have h2 := hd.2.2
  rw [h] at h2
  exact (Option.some.inj h2).symm
theorem vx_runVW {y : MethodName} {bytes cc : ByteArray} {maxL nL mc ms n index : Nat} {ret : Option FieldType} {hh : List (Nat × Nat × Nat × Nat)} {ws : List Cond} {rm : Room} {Pc : Array Value → State → Prop} {Qc : Array Value → State → Outcome → State → Prop} {free : Addr → Prop} {Ts : List Cond} {own C : String} {b : Addr} {As rest : List Value} {g : JFrame}
    (S : CallFix p m c cc nL s args Ts own) (hM : Met l y ws rm Pc Qc mc ms free) (cw : vx_CVW R s args own C index y bytes maxL ret hh ws rm mc ms n) (hp : PreV s H C b Pc As)
    (hg : g.method = m) (hn : As.length = n) (hsize : g.locals.size = nL) (hstack : g.stack = As.reverse ++ .ref b :: rest) (hW : 2 * g.monitorRoom + (rest.map fun v => v.category).sum ≤ 8) (hdg : decode cc g.pc = .ok (.invokevirtual index, 3)) (hf : cells + mc ≤ R.cells ∧ slots + ms ≤ R.slots) :
    va_Run p l e R s m args below meth c H locs cells slots mc ms g rest (Qc (Value.ref b :: As).toArray) free := by
  obtain ⟨⟨hrc, hrs, hfr, hlo, hws, hcw⟩, hcode, hini, hy, hlen, hl, hin, hse⟩ := cw
  have hK : Back l R p e below s args y 3 8 (PreOf R mc ms Pc) (PostOf Qc mc ms free) := va_backW (hh := hh) (bytes := bytes) (maxL := maxL) (ret := ret) hM hp.1 hrc hrs hfr hlo hws hcw (fun a' U hW => word_at hW (Or.inl (by first | rfl | simp [Cond.onTables, Cond.keeps, Cond.steady])) hini)
  obtain ⟨hx, hb, hml, ho, -⟩ := S
  obtain ⟨-, ⟨cellB, hcB, hoB, hclB⟩, hPc⟩ := hp
  intro T hT X
  obtain ⟨v, vm₁, ⟨U', l2, c2, s2⟩, hW₁, X', ⟨g', mk, t, L, e1, e2, hq, h1, hL, h2, h3⟩, st⟩ := vx_callVW X hx (C := C) (hh := hh) (bytes := bytes) (maxL := maxL) (ret := ret) ho hl hin hse hcode hy hK (by rw [hT]; exact hcB) hoB hclB hg (hsize.trans hml.symm) (argsL := As) (rest := rest) (fun sig h => hn.trans (hlen sig h)) hstack hW (by rw [hb]; exact hdg)
    (fun vm₁ hW₁ => ⟨hf.1, hf.2, hPc (T.setVm vm₁) hT hW₁⟩)
  dsimp only [Pt.U, Pt.locs, Pt.cells, Pt.slots] at X' e1 e2 h1 h2 h3 st
  subst h1; subst h2; subst h3
  exact ⟨v, (T.setVm vm₁).calling g' mk (Value.ref b :: As).toArray, t, U', L, hT, X', hL, e1, e2, hq, st⟩
section
variable {y : MethodName} {bytes cc : ByteArray} {maxL nL mc ms n index : Nat} {ret : Option FieldType} {ws : List Cond} {rm : Room} {Pc : Array Value → State → Prop} {Qc : Array Value → State → Outcome → State → Prop} {XC : String → State → State → Prop} {free : Addr → Prop} {Ts : List Cond} {own C : String} {b : Addr} {As rest : List Value} {g : JFrame}
theorem vx_runVX {hh : List (Nat × Nat × Nat × Nat)} (S : CallFix p m c cc nL s args Ts own) (hM : vx_Met l y ws rm Pc Qc XC mc ms free) (cw : vx_CVW R s args own C index y bytes maxL ret hh ws rm mc ms n) (hp : PreV s H C b Pc As)
    (hg : g.method = m) (hn : As.length = n) (hsize : g.locals.size = nL) (hstack : g.stack = As.reverse ++ .ref b :: rest) (hW : 2 * g.monitorRoom + (rest.map fun v => v.category).sum ≤ 8) (hdg : decode cc g.pc = .ok (.invokevirtual index, 3)) (hf : cells + mc ≤ R.cells ∧ slots + ms ≤ R.slots) :
    vx_Run p l e R s m args below meth c H locs cells slots mc ms g rest (Qc (Value.ref b :: As).toArray) XC free := by
  obtain ⟨⟨hrc, hrs, hfr, hlo, hws, hcw⟩, hcode, hini, hy, hlen, hl, hin, hse⟩ := cw
  have hK : vx_Back l R p e below s args y 3 8 (PreOf R mc ms Pc) (PostOf Qc mc ms free) (vx_Post XC mc ms free) := vx_backW (hh := hh) (bytes := bytes) (maxL := maxL) (ret := ret) hM hp.1 hrc hrs hfr hlo hws hcw (fun a' U hW => word_at hW (Or.inl (by first | rfl | simp [Cond.onTables, Cond.keeps, Cond.steady])) hini)
  obtain ⟨hx, hb, hml, ho, -⟩ := S
  obtain ⟨-, ⟨cellB, hcB, hoB, hclB⟩, hPc⟩ := hp
  intro T hT X
  rcases vx_callVX X hx (C := C) (hh := hh) (bytes := bytes) (maxL := maxL) (ret := ret) ho hl hin hse hcode hy hK (by rw [hT]; exact hcB) hoB hclB hg (hsize.trans hml.symm) (argsL := As) (rest := rest) (fun sig h => hn.trans (hlen sig h)) hstack hW (by rw [hb]; exact hdg)
    (fun vm₁ hW₁ => ⟨hf.1, hf.2, hPc (T.setVm vm₁) hT hW₁⟩) with ⟨v, vm₁, ⟨U', l2, c2, s2⟩, hW₁, X', ⟨g', mk, t, L, e1, e2, hq, h1, hL, h2, h3⟩, st⟩ | ⟨q, vm₁, ⟨U', l2, c2, s2⟩, hW₁, X', ⟨g', mk, t, L, E, ce, e1, e2, hq, hce, hcv, hcl, h1, hL, h2, h3⟩, st⟩
  · dsimp only [Pt.U, Pt.locs, Pt.cells, Pt.slots] at X' e1 e2 h1 h2 h3 st
    subst h1; subst h2; subst h3
    exact Or.inl ⟨v, (T.setVm vm₁).calling g' mk (Value.ref b :: As).toArray, t, U', L, hT, X', hL, e1, e2, hq, st⟩
  · dsimp only [Pt.U, Pt.locs, Pt.cells, Pt.slots] at X' e1 e2 h1 h2 h3 st hcl
    subst h1; subst h2; subst h3
    exact Or.inr ⟨q, (T.setVm vm₁).calling g' mk (Value.ref b :: As).toArray, t, U', L, E, ce, hT, X', hL, e1, e2, hq, hce, hcv, vx_cls hW₁ hcl, st⟩
theorem vx_runSX {hh : List (Nat × Nat × Nat × Nat)} (S : CallFix p m c cc nL s args Ts own) (hM : vx_Met l y ws rm Pc Qc XC mc ms free) (cw : vx_CSW R s args own index y bytes maxL ret hh ws rm mc ms n) (hp : PreS s H Pc As)
    (hg : g.method = m) (hn : As.length = n) (hsize : g.locals.size = nL) (hstack : g.stack = As.reverse ++ rest) (hW : 2 * g.monitorRoom + (rest.map fun v => v.category).sum ≤ 8) (hdg : decode cc g.pc = .ok (.invokestatic index, 3)) (hf : cells + mc ≤ R.cells ∧ slots + ms ≤ R.slots) :
    vx_Run p l e R s m args below meth c H locs cells slots mc ms g rest (Qc As.toArray) XC free := by
  obtain ⟨⟨hrc, hrs, hfr, hlo, hws, hcw⟩, hcode, hini, hy, hlen, hl, hstt⟩ := cw
  have hK : vx_Back l R p e below s args y 3 8 (PreOf R mc ms Pc) (PostOf Qc mc ms free) (vx_Post XC mc ms free) := vx_backW (hh := hh) (bytes := bytes) (maxL := maxL) (ret := ret) hM hp.1 hrc hrs hfr hlo hws hcw (fun a' U hW => word_at hW (Or.inl (by first | rfl | simp [Cond.onTables, Cond.keeps, Cond.steady])) hini)
  obtain ⟨hx, hb, hml, ho, -⟩ := S
  intro T hT X
  rcases vx_callSX X hx (hh := hh) (bytes := bytes) (maxL := maxL) (ret := ret) ho hl hstt hini hcode hy hK hg (hsize.trans hml.symm) (argsL := As) (rest := rest) (fun sig h => hn.trans (hlen sig h)) hstack hW (by rw [hb]; exact hdg)
    (fun vm₁ hW₁ => ⟨hf.1, hf.2, hp.2 (T.setVm vm₁) hT hW₁⟩) with ⟨v, vm₁, ⟨U', l2, c2, s2⟩, hW₁, X', ⟨g', mk, t, L, e1, e2, hq, h1, hL, h2, h3⟩, st⟩ | ⟨q, vm₁, ⟨U', l2, c2, s2⟩, hW₁, X', ⟨g', mk, t, L, E, ce, e1, e2, hq, hce, hcv, hcl, h1, hL, h2, h3⟩, st⟩
  · dsimp only [Pt.U, Pt.locs, Pt.cells, Pt.slots] at X' e1 e2 h1 h2 h3 st
    subst h1; subst h2; subst h3
    exact Or.inl ⟨v, (T.setVm vm₁).calling g' mk As.toArray, t, U', L, hT, X', hL, e1, e2, hq, st⟩
  · dsimp only [Pt.U, Pt.locs, Pt.cells, Pt.slots] at X' e1 e2 h1 h2 h3 st hcl
    subst h1; subst h2; subst h3
    exact Or.inr ⟨q, (T.setVm vm₁).calling g' mk As.toArray, t, U', L, E, ce, hT, X', hL, e1, e2, hq, hce, hcv, vx_cls hW₁ hcl, st⟩
end
end VXH
theorem vx_ofWH {l : Launch} {y : MethodName} {ws ws' : List Cond} {rm : Room} {Pc : Array Value → State → Prop} {Qc : Array Value → State → Outcome → State → Prop} {XC : String → State → State → Prop} {mc ms : Nat} {free : Addr → Prop} {cc : ByteArray} {maxL : Nat} {ret : Option FieldType} {hh : List (Nat × Nat × Nat × Nat)}
    (hy : plainName y.cls = true) (hw : ws = Cond.codeWith y cc maxL ret hh :: ws')
    (body : ∀ p e s m args below meth c s₁, BodyLoose p l y (headSpec ws rm) cc maxL ret e s m args below meth c s₁ → c.maxLocals = maxL → Pc args s →
      W p l e (headSpec ws rm).room s m args below meth c s.heap [] 0 0 (vx_MQ below Qc XC args s mc ms free) (entryFrame m args maxL)) : vx_Met l y ws rm Pc Qc XC mc ms free := by
  refine MetFree.of_bodyS (code := cc) (maxLocals := maxL) (ret := ret) hy ?_ ?_
  · intro args s m h hn
    obtain ⟨m9, meth, c, hn9, h1, h2, h3, h4, -, h5, h6, -⟩ := Cond.codeWith_spec (atoms_spec (ws := ws) h _ (by rw [hw]; exact List.mem_cons_self))
    cases hn.symm.trans hn9
    exact ⟨meth, c, h1, h2, h3, h4, h5, h6⟩
  · intro p e s m args below meth c s₁ B hml hP _
    have hh0 : s₁.heap = s.heap := by rw [B.state]; rfl
    obtain ⟨t, a1, o, b1, b2, b3⟩ := body p e s m args below meth c s₁ B hml hP s₁ hh0 (Stand.of_body B)
    exact ⟨t, o, a1, b1, b2, b3⟩
/-! ===== END ===== -/
end
section
/-! NoSuchElementException: its constructor calls the next by another index (13) than the other three's (7); its words. -/
def q_six : ByteArray := ⟨#[0x2a, 0x2b, 0xb7, 0x00, 0x0d, 0xb1]⟩
def q_ownN (own : String) (ic : Nat) : List Cond := Bundle.throwableAtoms ++ (Bundle.throwableSAtoms ++ (Bundle.passSAtoms "java/util/NoSuchElementException" "java/lang/RuntimeException" 13 q_six ++ (Bundle.chainSAtoms "java/lang/RuntimeException" ["java/lang/Exception"] ++ (Bundle.ownAtoms own ic "java/util/NoSuchElementException" []).drop 33)))
def q_atN (own : String) (ic : Nat) : List Cond := (q_ownN own ic).filter vx_no
end
section
/-! ===== BEGIN printed: names, fields, word lists, decode rows ===== -/
def RX0 : String := "CircleCells$Circle"
def TX0 : u_T := fun k => match k with
  | 0 => ("CircleCells$Circle", "fromX", "I", false)
  | 1 => ("CircleCells$Circle", "fromY", "I", false)
  | 2 => ("CircleCells$Circle", "aimX", "J", false)
  | 3 => ("CircleCells$Circle", "aimY", "J", false)
  | _ => ("CircleCells$Circle", "span", "J", false)
def tyX0 : Nat → FieldType := fun k => match k with
  | 0 => .int
  | 1 => .int
  | 2 => .long
  | 3 => .long
  | _ => .long
abbrev wsX00 : List Cond := u_ws RX0 TX0 5
theorem nmX0 : ∀ a, a < 5 → ∀ b, b < 5 → a ≠ b → (TX0 a).2.1 ≠ (TX0 b).2.1 := by decide +kernel
theorem tyX0_ok : ∀ k, k < 5 → parseFieldDescriptor (TX0 k).2.2.1 = some (tyX0 k) := by decide +kernel
abbrev cX0_init : ByteArray := prog_2_method_1_code
def yX0_init : MethodName := ⟨RX0, "<init>", "()V"⟩
abbrev cX0_layThrough : ByteArray := prog_2_method_2_code
def yX0_layThrough : MethodName := ⟨RX0, "layThrough", "(LCircleCells$Sites;III)V"⟩
abbrev cX0_power : ByteArray := prog_2_method_3_code
def yX0_power : MethodName := ⟨RX0, "power", "(II)J"⟩
abbrev cX0_middle : ByteArray := prog_2_method_4_code
def yX0_middle : MethodName := ⟨RX0, "middle", "(I)J"⟩
abbrev cX0_commonDivisor : ByteArray := prog_2_method_5_code
def yX0_commonDivisor : MethodName := ⟨RX0, "commonDivisor", "(JJ)J"⟩
def RX1 : String := "CircleCells$Mosaic"
def TX1 : u_T := fun k => match k with
  | 0 => ("CircleCells$Mosaic", "sites", "LCircleCells$Sites;", true)
  | 1 => ("CircleCells$Mosaic", "circle", "LCircleCells$Circle;", true)
  | 2 => ("CircleCells$Mosaic", "ring", "[I", true)
  | 3 => ("CircleCells$Mosaic", "start", "[I", true)
  | 4 => ("CircleCells$Mosaic", "owner", "[I", true)
  | 5 => ("CircleCells$Mosaic", "cellCount", "I", false)
  | 6 => ("CircleCells$Mosaic", "rim", "[I", true)
  | _ => ("CircleCells$Mosaic", "rimCount", "I", false)
def tyX1 : Nat → FieldType := fun k => match k with
  | 0 => .object "CircleCells$Sites"
  | 1 => .object "CircleCells$Circle"
  | 2 => .array .int
  | 3 => .array .int
  | 4 => .array .int
  | 5 => .int
  | 6 => .array .int
  | _ => .int
abbrev wsX10 : List Cond := u_ws RX1 TX1 8
theorem nmX1 : ∀ a, a < 8 → ∀ b, b < 8 → a ≠ b → (TX1 a).2.1 ≠ (TX1 b).2.1 := by decide +kernel
theorem tyX1_ok : ∀ k, k < 8 → parseFieldDescriptor (TX1 k).2.2.1 = some (tyX1 k) := by decide +kernel
abbrev cX1_init : ByteArray := prog_3_method_1_code
def yX1_init : MethodName := ⟨RX1, "<init>", "(LCircleCells$Sites;)V"⟩
abbrev cX1_build : ByteArray := prog_3_method_2_code
def yX1_build : MethodName := ⟨RX1, "build", "()V"⟩
abbrev cX1_layLeftOf : ByteArray := prog_3_method_3_code
def yX1_layLeftOf : MethodName := ⟨RX1, "layLeftOf", "(II)Z"⟩
abbrev cX1_beginsCell : ByteArray := prog_3_method_4_code
def yX1_beginsCell : MethodName := ⟨RX1, "beginsCell", "(II)Z"⟩
abbrev cX1_powerOf : ByteArray := prog_3_method_5_code
def yX1_powerOf : MethodName := ⟨RX1, "powerOf", "(I)J"⟩
abbrev cX1_addCell : ByteArray := prog_3_method_6_code
def yX1_addCell : MethodName := ⟨RX1, "addCell", "(I)V"⟩
abbrev cX1_insertRound : ByteArray := prog_3_method_7_code
def yX1_insertRound : MethodName := ⟨RX1, "insertRound", "(III)V"⟩
abbrev cX1_claimSides : ByteArray := prog_3_method_8_code
def yX1_claimSides : MethodName := ⟨RX1, "claimSides", "(I)V"⟩
abbrev cX1_sideKey : ByteArray := prog_3_method_9_code
def yX1_sideKey : MethodName := ⟨RX1, "sideKey", "(II)I"⟩
abbrev cX1_walkRim : ByteArray := prog_3_method_10_code
def yX1_walkRim : MethodName := ⟨RX1, "walkRim", "()V"⟩
abbrev cX1_firstOnRim : ByteArray := prog_3_method_11_code
def yX1_firstOnRim : MethodName := ⟨RX1, "firstOnRim", "()I"⟩
abbrev cX1_nextOnRim : ByteArray := prog_3_method_12_code
def yX1_nextOnRim : MethodName := ⟨RX1, "nextOnRim", "(I)I"⟩
abbrev cX1_sideCount : ByteArray := prog_3_method_13_code
def yX1_sideCount : MethodName := ⟨RX1, "sideCount", "(I)I"⟩
abbrev cX1_siteOf : ByteArray := prog_3_method_14_code
def yX1_siteOf : MethodName := ⟨RX1, "siteOf", "(II)I"⟩
abbrev cX1_siteAfter : ByteArray := prog_3_method_15_code
def yX1_siteAfter : MethodName := ⟨RX1, "siteAfter", "(II)I"⟩
abbrev cX1_across : ByteArray := prog_3_method_16_code
def yX1_across : MethodName := ⟨RX1, "across", "(II)I"⟩
abbrev cX1_circleOf : ByteArray := prog_3_method_17_code
def yX1_circleOf : MethodName := ⟨RX1, "circleOf", "(I)LCircleCells$Circle;"⟩
abbrev cX1_firstWith : ByteArray := prog_3_method_18_code
def yX1_firstWith : MethodName := ⟨RX1, "firstWith", "(II)I"⟩
abbrev cX1_holds : ByteArray := prog_3_method_19_code
def yX1_holds : MethodName := ⟨RX1, "holds", "(III)Z"⟩
def RX2 : String := "CircleCells$Sites"
def TX2 : u_T := fun k => match k with
  | 0 => ("CircleCells$Sites", "x", "[I", true)
  | 1 => ("CircleCells$Sites", "y", "[I", true)
  | _ => ("CircleCells$Sites", "size", "I", false)
def tyX2 : Nat → FieldType := fun k => match k with
  | 0 => .array .int
  | 1 => .array .int
  | _ => .int
abbrev wsX20 : List Cond := u_ws RX2 TX2 3
theorem nmX2 : ∀ a, a < 3 → ∀ b, b < 3 → a ≠ b → (TX2 a).2.1 ≠ (TX2 b).2.1 := by decide +kernel
theorem tyX2_ok : ∀ k, k < 3 → parseFieldDescriptor (TX2 k).2.2.1 = some (tyX2 k) := by decide +kernel
abbrev cX2_init : ByteArray := prog_4_method_1_code
def yX2_init : MethodName := ⟨RX2, "<init>", "()V"⟩
abbrev cX2_append : ByteArray := prog_4_method_2_code
def yX2_append : MethodName := ⟨RX2, "append", "(II)I"⟩
abbrev cX2_put : ByteArray := prog_4_method_3_code
def yX2_put : MethodName := ⟨RX2, "put", "(III)V"⟩
abbrev cX2_drop : ByteArray := prog_4_method_4_code
def yX2_drop : MethodName := ⟨RX2, "drop", "(I)V"⟩
abbrev cX2_dropAll : ByteArray := prog_4_method_5_code
def yX2_dropAll : MethodName := ⟨RX2, "dropAll", "()V"⟩
abbrev cX2_numberAt : ByteArray := prog_4_method_6_code
def yX2_numberAt : MethodName := ⟨RX2, "numberAt", "(II)I"⟩
abbrev cX2_closestTo : ByteArray := prog_4_method_7_code
def yX2_closestTo : MethodName := ⟨RX2, "closestTo", "(II)I"⟩
abbrev cX2_squareTo : ByteArray := prog_4_method_8_code
def yX2_squareTo : MethodName := ⟨RX2, "squareTo", "(III)I"⟩
abbrev cX2_turn : ByteArray := prog_4_method_9_code
def yX2_turn : MethodName := ⟨RX2, "turn", "(IIII)I"⟩
abbrev cX2_turn_ : ByteArray := prog_4_method_10_code
def yX2_turn_ : MethodName := ⟨RX2, "turn", "(III)I"⟩
def RX3 : String := "CircleCells"
def TX3 : u_T := fun k => match k with
  | 0 => ("CircleCells", "sites", "LCircleCells$Sites;", true)
  | 1 => ("CircleCells", "mosaic", "LCircleCells$Mosaic;", true)
  | _ => ("CircleCells", "stale", "Z", false)
def tyX3 : Nat → FieldType := fun k => match k with
  | 0 => .object "CircleCells$Sites"
  | 1 => .object "CircleCells$Mosaic"
  | _ => .boolean
abbrev wsX30 : List Cond := u_ws RX3 TX3 3
theorem nmX3 : ∀ a, a < 3 → ∀ b, b < 3 → a ≠ b → (TX3 a).2.1 ≠ (TX3 b).2.1 := by decide +kernel
theorem tyX3_ok : ∀ k, k < 3 → parseFieldDescriptor (TX3 k).2.2.1 = some (tyX3 k) := by decide +kernel
abbrev cX3_init : ByteArray := prog_1_method_1_code
def yX3_init : MethodName := ⟨RX3, "<init>", "()V"⟩
abbrev cX3_site : ByteArray := prog_1_method_2_code
def yX3_site : MethodName := ⟨RX3, "site", "(II)I"⟩
abbrev cX3_remove : ByteArray := prog_1_method_3_code
def yX3_remove : MethodName := ⟨RX3, "remove", "(I)V"⟩
abbrev cX3_move : ByteArray := prog_1_method_4_code
def yX3_move : MethodName := ⟨RX3, "move", "(III)V"⟩
abbrev cX3_clear : ByteArray := prog_1_method_5_code
def yX3_clear : MethodName := ⟨RX3, "clear", "()V"⟩
abbrev cX3_where : ByteArray := prog_1_method_6_code
def yX3_where : MethodName := ⟨RX3, "where", "(II)I"⟩
abbrev cX3_cells : ByteArray := prog_1_method_7_code
def yX3_cells : MethodName := ⟨RX3, "cells", "()I"⟩
abbrev cX3_cell : ByteArray := prog_1_method_8_code
def yX3_cell : MethodName := ⟨RX3, "cell", "(II)I"⟩
abbrev cX3_beside : ByteArray := prog_1_method_9_code
def yX3_beside : MethodName := ⟨RX3, "beside", "(II)I"⟩
abbrev cX3_centre : ByteArray := prog_1_method_10_code
def yX3_centre : MethodName := ⟨RX3, "centre", "(II)J"⟩
abbrev cX3_hull : ByteArray := prog_1_method_11_code
def yX3_hull : MethodName := ⟨RX3, "hull", "(I)I"⟩
abbrev cX3_around : ByteArray := prog_1_method_12_code
def yX3_around : MethodName := ⟨RX3, "around", "(II)I"⟩
abbrev cX3_nearest : ByteArray := prog_1_method_13_code
def yX3_nearest : MethodName := ⟨RX3, "nearest", "(II)I"⟩
abbrev cX3_requirePlace : ByteArray := prog_1_method_14_code
def yX3_requirePlace : MethodName := ⟨RX3, "requirePlace", "(II)V"⟩
abbrev cX3_requireSite : ByteArray := prog_1_method_15_code
def yX3_requireSite : MethodName := ⟨RX3, "requireSite", "(I)V"⟩
abbrev cX3_requireCell : ByteArray := prog_1_method_16_code
def yX3_requireCell : MethodName := ⟨RX3, "requireCell", "(I)V"⟩
abbrev cX3_requireIndex : ByteArray := prog_1_method_17_code
def yX3_requireIndex : MethodName := ⟨RX3, "requireIndex", "(II)V"⟩
abbrev cX3_refresh : ByteArray := prog_1_method_18_code
def yX3_refresh : MethodName := ⟨RX3, "refresh", "()V"⟩
def RX4 : String := "CircleCellsModel"
def TX4 : u_T := fun k => match k with
  | 0 => ("CircleCellsModel", "thrown", "I", false)
  | 1 => ("CircleCellsModel", "sites", "I", false)
  | 2 => ("CircleCellsModel", "x", "[I", true)
  | 3 => ("CircleCellsModel", "y", "[I", true)
  | 4 => ("CircleCellsModel", "made", "Z", false)
  | 5 => ("CircleCellsModel", "cells", "I", false)
  | 6 => ("CircleCellsModel", "size", "[I", true)
  | 7 => ("CircleCellsModel", "round", "[I", true)
  | 8 => ("CircleCellsModel", "order", "[I", true)
  | 9 => ("CircleCellsModel", "hullSize", "I", false)
  | _ => ("CircleCellsModel", "hull", "[I", true)
def tyX4 : Nat → FieldType := fun k => match k with
  | 0 => .int
  | 1 => .int
  | 2 => .array .int
  | 3 => .array .int
  | 4 => .boolean
  | 5 => .int
  | 6 => .array .int
  | 7 => .array .int
  | 8 => .array .int
  | 9 => .int
  | _ => .array .int
abbrev wsX40 : List Cond := u_ws RX4 TX4 11
theorem nmX4 : ∀ a, a < 11 → ∀ b, b < 11 → a ≠ b → (TX4 a).2.1 ≠ (TX4 b).2.1 := by decide +kernel
theorem tyX4_ok : ∀ k, k < 11 → parseFieldDescriptor (TX4 k).2.2.1 = some (tyX4 k) := by decide +kernel
abbrev cX4_init : ByteArray := prog_6_method_1_code
def yX4_init : MethodName := ⟨RX4, "<init>", "()V"⟩
abbrev cX4_thrown : ByteArray := prog_6_method_2_code
def yX4_thrown : MethodName := ⟨RX4, "thrown", "()I"⟩
abbrev cX4_throwing : ByteArray := prog_6_method_3_code
def yX4_throwing : MethodName := ⟨RX4, "throwing", "(ZZ)Z"⟩
abbrev cX4_out : ByteArray := prog_6_method_4_code
def yX4_out : MethodName := ⟨RX4, "out", "(II)Z"⟩
abbrev cX4_isFar : ByteArray := prog_6_method_5_code
def yX4_isFar : MethodName := ⟨RX4, "isFar", "(II)Z"⟩
abbrev cX4_isTaken : ByteArray := prog_6_method_6_code
def yX4_isTaken : MethodName := ⟨RX4, "isTaken", "(III)Z"⟩
abbrev cX4_site : ByteArray := prog_6_method_7_code
def yX4_site : MethodName := ⟨RX4, "site", "(II)I"⟩
abbrev cX4_remove : ByteArray := prog_6_method_8_code
def yX4_remove : MethodName := ⟨RX4, "remove", "(I)V"⟩
abbrev cX4_move : ByteArray := prog_6_method_9_code
def yX4_move : MethodName := ⟨RX4, "move", "(III)V"⟩
abbrev cX4_clear : ByteArray := prog_6_method_10_code
def yX4_clear : MethodName := ⟨RX4, "clear", "()V"⟩
abbrev cX4_where : ByteArray := prog_6_method_11_code
def yX4_where : MethodName := ⟨RX4, "where", "(II)I"⟩
abbrev cX4_turn : ByteArray := prog_6_method_12_code
def yX4_turn : MethodName := ⟨RX4, "turn", "(IIII)J"⟩
abbrev cX4_square : ByteArray := prog_6_method_13_code
def yX4_square : MethodName := ⟨RX4, "square", "(II)J"⟩
abbrev cX4_power : ByteArray := prog_6_method_14_code
def yX4_power : MethodName := ⟨RX4, "power", "(IIII)J"⟩
abbrev cX4_onCircle : ByteArray := prog_6_method_15_code
def yX4_onCircle : MethodName := ⟨RX4, "onCircle", "(III)I"⟩
abbrev cX4_behind : ByteArray := prog_6_method_16_code
def yX4_behind : MethodName := ⟨RX4, "behind", "(II)I"⟩
abbrev cX4_add : ByteArray := prog_6_method_17_code
def yX4_add : MethodName := ⟨RX4, "add", "(II)V"⟩
abbrev cX4_isBefore : ByteArray := prog_6_method_18_code
def yX4_isBefore : MethodName := ⟨RX4, "isBefore", "(II)Z"⟩
abbrev cX4_make : ByteArray := prog_6_method_19_code
def yX4_make : MethodName := ⟨RX4, "make", "()V"⟩
abbrev cX4_after : ByteArray := prog_6_method_20_code
def yX4_after : MethodName := ⟨RX4, "after", "(II)I"⟩
abbrev cX4_withSide : ByteArray := prog_6_method_21_code
def yX4_withSide : MethodName := ⟨RX4, "withSide", "(II)I"⟩
abbrev cX4_onHull : ByteArray := prog_6_method_22_code
def yX4_onHull : MethodName := ⟨RX4, "onHull", "(I)I"⟩
abbrev cX4_surround : ByteArray := prog_6_method_23_code
def yX4_surround : MethodName := ⟨RX4, "surround", "()V"⟩
abbrev cX4_cells : ByteArray := prog_6_method_24_code
def yX4_cells : MethodName := ⟨RX4, "cells", "()I"⟩
abbrev cX4_cell : ByteArray := prog_6_method_25_code
def yX4_cell : MethodName := ⟨RX4, "cell", "(II)I"⟩
abbrev cX4_beside : ByteArray := prog_6_method_26_code
def yX4_beside : MethodName := ⟨RX4, "beside", "(II)I"⟩
abbrev cX4_divisor : ByteArray := prog_6_method_27_code
def yX4_divisor : MethodName := ⟨RX4, "divisor", "(JJ)J"⟩
abbrev cX4_centre : ByteArray := prog_6_method_28_code
def yX4_centre : MethodName := ⟨RX4, "centre", "(II)J"⟩
abbrev cX4_hull : ByteArray := prog_6_method_29_code
def yX4_hull : MethodName := ⟨RX4, "hull", "(I)I"⟩
abbrev cX4_around : ByteArray := prog_6_method_30_code
def yX4_around : MethodName := ⟨RX4, "around", "(II)I"⟩
abbrev cX4_nearest : ByteArray := prog_6_method_31_code
def yX4_nearest : MethodName := ⟨RX4, "nearest", "(II)I"⟩
def RJ9 : String := "java/lang/Math"
def TJ9 : u_T := fun k => match k with
  | _ => ("", "", "", false)
def tyJ9 : Nat → FieldType := fun k => match k with
  | _ => .int
abbrev wsJ90 : List Cond := u_ws RJ9 TJ9 0
theorem nmJ9 : ∀ a, a < 0 → ∀ b, b < 0 → a ≠ b → (TJ9 a).2.1 ≠ (TJ9 b).2.1 := by decide +kernel
theorem tyJ9_ok : ∀ k, k < 0 → parseFieldDescriptor (TJ9 k).2.2.1 = some (tyJ9 k) := by decide +kernel
abbrev cJ9_abs_067f4 : ByteArray := prog_11_method_61_code
def yJ9_abs_067f4 : MethodName := ⟨RJ9, "abs", "(J)J"⟩
def RJ0 : String := "java/lang/String"
def TJ0 : u_T := fun k => match k with
  | _ => ("", "", "", false)
def tyJ0 : Nat → FieldType := fun k => match k with
  | _ => .int
abbrev wsJ00 : List Cond := u_ws RJ0 TJ0 0
theorem nmJ0 : ∀ a, a < 0 → ∀ b, b < 0 → a ≠ b → (TJ0 a).2.1 ≠ (TJ0 b).2.1 := by decide +kernel
theorem tyJ0_ok : ∀ k, k < 0 → parseFieldDescriptor (TJ0 k).2.2.1 = some (tyJ0 k) := by decide +kernel
def RJ7 : String := "java/util/Arrays"
def TJ7 : u_T := fun k => match k with
  | _ => ("", "", "", false)
def tyJ7 : Nat → FieldType := fun k => match k with
  | _ => .int
abbrev wsJ70 : List Cond := u_ws RJ7 TJ7 0
theorem nmJ7 : ∀ a, a < 0 → ∀ b, b < 0 → a ≠ b → (TJ7 a).2.1 ≠ (TJ7 b).2.1 := by decide +kernel
theorem tyJ7_ok : ∀ k, k < 0 → parseFieldDescriptor (TJ7 k).2.2.1 = some (tyJ7 k) := by decide +kernel
abbrev cJ7_fill_53178 : ByteArray := prog_15_method_103_code
def yJ7_fill_53178 : MethodName := ⟨RJ7, "fill", "([II)V"⟩
def RL : String := "CircleCellsLaw"
abbrev cL_site : ByteArray := method_3_code
def yL_site : MethodName := ⟨RL, "site", "(LCircleCells;II[J)I"⟩
abbrev cL_remove : ByteArray := method_4_code
def yL_remove : MethodName := ⟨RL, "remove", "(LCircleCells;I)I"⟩
abbrev cL_move : ByteArray := method_5_code
def yL_move : MethodName := ⟨RL, "move", "(LCircleCells;III)I"⟩
abbrev cL_where : ByteArray := method_6_code
def yL_where : MethodName := ⟨RL, "where", "(LCircleCells;II[J)I"⟩
abbrev cL_cell : ByteArray := method_7_code
def yL_cell : MethodName := ⟨RL, "cell", "(LCircleCells;II[J)I"⟩
abbrev cL_beside : ByteArray := method_8_code
def yL_beside : MethodName := ⟨RL, "beside", "(LCircleCells;II[J)I"⟩
abbrev cL_centre : ByteArray := method_9_code
def yL_centre : MethodName := ⟨RL, "centre", "(LCircleCells;II[J)I"⟩
abbrev cL_hull : ByteArray := method_10_code
def yL_hull : MethodName := ⟨RL, "hull", "(LCircleCells;I[J)I"⟩
abbrev cL_around : ByteArray := method_11_code
def yL_around : MethodName := ⟨RL, "around", "(LCircleCells;II[J)I"⟩
abbrev cL_nearest : ByteArray := method_12_code
def yL_nearest : MethodName := ⟨RL, "nearest", "(LCircleCells;II[J)I"⟩
abbrev cL_law : ByteArray := code
def yL_law : MethodName := ⟨RL, "law", "([I)Z"⟩
def wsX0_init : List Cond := .code yX0_init cX0_init 1 none :: ([.methodLink RX0 1 objectInit, .instanceMethod objectInit, .code objectInit ⟨#[0xb1]⟩ 1 none])
def wsX0_layThrough : List Cond := .code yX0_layThrough cX0_layThrough 17 none :: ([.fieldLink RX0 7 "CircleCells$Sites" "x" "[I", .fieldLink RX0 13 "CircleCells$Circle" "fromX" "I", .fieldLink RX0 19 "CircleCells$Sites" "y" "[I", .fieldLink RX0 22 "CircleCells$Circle" "fromY" "I", .fieldLink RX0 25 "CircleCells$Circle" "aimX" "J", .fieldLink RX0 29 "CircleCells$Circle" "aimY" "J", .constantLong RX0 32 (2), .fieldLink RX0 34 "CircleCells$Circle" "span" "J"] ++ wsX20 ++ wsX00)
def wsX0_power : List Cond := .code yX0_power cX0_power 7 (some .long) :: ([.fieldLink RX0 13 "CircleCells$Circle" "fromX" "I", .fieldLink RX0 22 "CircleCells$Circle" "fromY" "I", .fieldLink RX0 34 "CircleCells$Circle" "span" "J", .constantLong RX0 32 (2), .fieldLink RX0 25 "CircleCells$Circle" "aimX" "J", .fieldLink RX0 29 "CircleCells$Circle" "aimY" "J"] ++ wsX00)
def wsX0_commonDivisor : List Cond := .code yX0_commonDivisor cX0_commonDivisor 7 (some .long) :: ([])
def wsX0_middle : List Cond := .code yX0_middle cX0_middle 10 (some .long) :: ([.fieldLink RX0 13 "CircleCells$Circle" "fromX" "I", .fieldLink RX0 34 "CircleCells$Circle" "span" "J", .fieldLink RX0 25 "CircleCells$Circle" "aimX" "J", .fieldLink RX0 22 "CircleCells$Circle" "fromY" "I", .fieldLink RX0 29 "CircleCells$Circle" "aimY" "J", .methodLink RX0 37 Lib.MathLoose.abs_long.x, .static Lib.MathLoose.abs_long.x, .initialized "java/lang/Math", .code Lib.MathLoose.abs_long.x Lib.MathLoose.abs_long.code 2 (some .long), .methodLink RX0 43 yX0_commonDivisor, .static yX0_commonDivisor, .initialized RX0, .code yX0_commonDivisor cX0_commonDivisor 7 (some .long)] ++ wsX00)
def wsX1_init : List Cond := .code yX1_init cX1_init 2 none :: ([.methodLink RX1 3 objectInit, .instanceMethod objectInit, .code objectInit ⟨#[0xb1]⟩ 1 none, .classLink RX1 9 RX0, .instantiable RX0 5, .initialized RX0, .fieldLink RX1 12 "CircleCells$Mosaic" "circle" "LCircleCells$Circle;", .arrayClass .int, .fieldLink RX1 18 "CircleCells$Mosaic" "ring" "[I", .fieldLink RX1 22 "CircleCells$Mosaic" "start" "[I", .fieldLink RX1 25 "CircleCells$Mosaic" "owner" "[I", .fieldLink RX1 28 "CircleCells$Mosaic" "cellCount" "I", .fieldLink RX1 32 "CircleCells$Mosaic" "rim" "[I", .fieldLink RX1 35 "CircleCells$Mosaic" "rimCount" "I", .fieldLink RX1 38 "CircleCells$Mosaic" "sites" "LCircleCells$Sites;", .instanceMethod yX0_init, .code yX0_init cX0_init 1 none, .methodLink RX0 1 objectInit] ++ wsX00 ++ wsX10)
def wsJ7_fill_53178 : List Cond := .code yJ7_fill_53178 cJ7_fill_53178 4 none :: ([])
def wsX2_turn : List Cond := .code yX2_turn cX2_turn 5 (some .int) :: ([.fieldLink RX2 9 "CircleCells$Sites" "x" "[I", .fieldLink RX2 15 "CircleCells$Sites" "y" "[I"] ++ wsX20)
def wsX2_turn_ : List Cond := .code yX2_turn_ cX2_turn_ 4 (some .int) :: ([.fieldLink RX2 9 "CircleCells$Sites" "x" "[I", .fieldLink RX2 15 "CircleCells$Sites" "y" "[I", .methodLink RX2 30 yX2_turn, .instanceMethod yX2_turn, .selects RX2 yX2_turn yX2_turn, .initialized RX2, .code yX2_turn cX2_turn 5 (some .int)] ++ wsX20)
def wsX1_powerOf : List Cond := .code yX1_powerOf cX1_powerOf 2 (some .long) :: ([.fieldLink RX1 12 "CircleCells$Mosaic" "circle" "LCircleCells$Circle;", .fieldLink RX1 38 "CircleCells$Mosaic" "sites" "LCircleCells$Sites;", .fieldLink RX1 79 "CircleCells$Sites" "x" "[I", .fieldLink RX1 82 "CircleCells$Sites" "y" "[I", .methodLink RX1 85 yX0_power, .instanceMethod yX0_power, .selects RX0 yX0_power yX0_power, .initialized RX0, .code yX0_power cX0_power 7 (some .long), .fieldLink RX0 13 "CircleCells$Circle" "fromX" "I", .fieldLink RX0 22 "CircleCells$Circle" "fromY" "I", .fieldLink RX0 34 "CircleCells$Circle" "span" "J", .constantLong RX0 32 (2), .fieldLink RX0 25 "CircleCells$Circle" "aimX" "J", .fieldLink RX0 29 "CircleCells$Circle" "aimY" "J"] ++ wsX10 ++ wsX20 ++ wsX00)
def wsX1_layLeftOf_r1 : List Cond := [Cond.fieldLink RX1 38 "CircleCells$Mosaic" "sites" "LCircleCells$Sites;", Cond.fieldLink RX1 48 "CircleCells$Sites" "size" "I", Cond.fieldLink RX1 12 "CircleCells$Mosaic" "circle" "LCircleCells$Circle;", Cond.methodLink RX1 67 yX2_turn_, Cond.instanceMethod yX2_turn_, Cond.selects RX2 yX2_turn_ yX2_turn_, Cond.initialized RX2, Cond.code yX2_turn_ cX2_turn_ 4 (some .int), Cond.fieldLink RX2 9 "CircleCells$Sites" "x" "[I", Cond.fieldLink RX2 15 "CircleCells$Sites" "y" "[I", Cond.methodLink RX2 30 yX2_turn, Cond.instanceMethod yX2_turn, Cond.selects RX2 yX2_turn yX2_turn, Cond.code yX2_turn cX2_turn 5 (some .int), Cond.methodLink RX1 71 yX1_powerOf, Cond.instanceMethod yX1_powerOf, Cond.selects RX1 yX1_powerOf yX1_powerOf, Cond.initialized RX1, Cond.code yX1_powerOf cX1_powerOf 2 (some .long), Cond.fieldLink RX1 79 "CircleCells$Sites" "x" "[I", Cond.fieldLink RX1 82 "CircleCells$Sites" "y" "[I", Cond.methodLink RX1 85 yX0_power, Cond.instanceMethod yX0_power, Cond.selects RX0 yX0_power yX0_power]
def wsX1_layLeftOf_r2 : List Cond := [Cond.initialized RX0, Cond.code yX0_power cX0_power 7 (some .long), Cond.fieldLink RX0 13 "CircleCells$Circle" "fromX" "I", Cond.fieldLink RX0 22 "CircleCells$Circle" "fromY" "I", Cond.fieldLink RX0 34 "CircleCells$Circle" "span" "J", Cond.constantLong RX0 32 (2), Cond.fieldLink RX0 25 "CircleCells$Circle" "aimX" "J", Cond.fieldLink RX0 29 "CircleCells$Circle" "aimY" "J", Cond.methodLink RX1 75 yX0_layThrough, Cond.instanceMethod yX0_layThrough, Cond.selects RX0 yX0_layThrough yX0_layThrough, Cond.code yX0_layThrough cX0_layThrough 17 none, Cond.fieldLink RX0 7 "CircleCells$Sites" "x" "[I", Cond.fieldLink RX0 19 "CircleCells$Sites" "y" "[I"]
def wsX1_layLeftOf : List Cond := .code yX1_layLeftOf cX1_layLeftOf 5 (some .boolean) :: ((wsX1_layLeftOf_r1 ++ wsX1_layLeftOf_r2) ++ wsX10 ++ wsX20 ++ wsX00)
def wsX1_beginsCell_r1 : List Cond := [Cond.fieldLink RX1 38 "CircleCells$Mosaic" "sites" "LCircleCells$Sites;", Cond.fieldLink RX1 48 "CircleCells$Sites" "size" "I", Cond.methodLink RX1 71 yX1_powerOf, Cond.instanceMethod yX1_powerOf, Cond.selects RX1 yX1_powerOf yX1_powerOf, Cond.initialized RX1, Cond.code yX1_powerOf cX1_powerOf 2 (some .long), Cond.fieldLink RX1 12 "CircleCells$Mosaic" "circle" "LCircleCells$Circle;", Cond.fieldLink RX1 79 "CircleCells$Sites" "x" "[I", Cond.fieldLink RX1 82 "CircleCells$Sites" "y" "[I", Cond.methodLink RX1 85 yX0_power, Cond.instanceMethod yX0_power, Cond.selects RX0 yX0_power yX0_power, Cond.initialized RX0, Cond.code yX0_power cX0_power 7 (some .long), Cond.fieldLink RX0 13 "CircleCells$Circle" "fromX" "I", Cond.fieldLink RX0 22 "CircleCells$Circle" "fromY" "I", Cond.fieldLink RX0 34 "CircleCells$Circle" "span" "J", Cond.constantLong RX0 32 (2), Cond.fieldLink RX0 25 "CircleCells$Circle" "aimX" "J", Cond.fieldLink RX0 29 "CircleCells$Circle" "aimY" "J", Cond.methodLink RX1 67 yX2_turn_, Cond.instanceMethod yX2_turn_, Cond.selects RX2 yX2_turn_ yX2_turn_]
def wsX1_beginsCell_r2 : List Cond := [Cond.initialized RX2, Cond.code yX2_turn_ cX2_turn_ 4 (some .int), Cond.fieldLink RX2 9 "CircleCells$Sites" "x" "[I", Cond.fieldLink RX2 15 "CircleCells$Sites" "y" "[I", Cond.methodLink RX2 30 yX2_turn, Cond.instanceMethod yX2_turn, Cond.selects RX2 yX2_turn yX2_turn, Cond.code yX2_turn cX2_turn 5 (some .int)]
def wsX1_beginsCell : List Cond := .code yX1_beginsCell cX1_beginsCell 7 (some .boolean) :: ((wsX1_beginsCell_r1 ++ wsX1_beginsCell_r2) ++ wsX10 ++ wsX20 ++ wsX00)
def wsX1_insertRound : List Cond := .code yX1_insertRound cX1_insertRound 5 none :: ([.fieldLink RX1 38 "CircleCells$Mosaic" "sites" "LCircleCells$Sites;", .fieldLink RX1 18 "CircleCells$Mosaic" "ring" "[I", .methodLink RX1 67 yX2_turn_, .instanceMethod yX2_turn_, .selects RX2 yX2_turn_ yX2_turn_, .initialized RX2, .code yX2_turn_ cX2_turn_ 4 (some .int), .fieldLink RX2 9 "CircleCells$Sites" "x" "[I", .fieldLink RX2 15 "CircleCells$Sites" "y" "[I", .methodLink RX2 30 yX2_turn, .instanceMethod yX2_turn, .selects RX2 yX2_turn yX2_turn, .code yX2_turn cX2_turn 5 (some .int)] ++ wsX10 ++ wsX20)
def wsX1_sideCount : List Cond := .code yX1_sideCount cX1_sideCount 2 (some .int) :: ([.fieldLink RX1 22 "CircleCells$Mosaic" "start" "[I"] ++ wsX10)
def wsX1_siteOf : List Cond := .code yX1_siteOf cX1_siteOf 3 (some .int) :: ([.fieldLink RX1 18 "CircleCells$Mosaic" "ring" "[I", .fieldLink RX1 22 "CircleCells$Mosaic" "start" "[I"] ++ wsX10)
def wsX1_siteAfter : List Cond := .code yX1_siteAfter cX1_siteAfter 3 (some .int) :: ([.methodLink RX1 96 yX1_sideCount, .instanceMethod yX1_sideCount, .selects RX1 yX1_sideCount yX1_sideCount, .initialized RX1, .code yX1_sideCount cX1_sideCount 2 (some .int), .fieldLink RX1 22 "CircleCells$Mosaic" "start" "[I", .methodLink RX1 100 yX1_siteOf, .instanceMethod yX1_siteOf, .selects RX1 yX1_siteOf yX1_siteOf, .code yX1_siteOf cX1_siteOf 3 (some .int), .fieldLink RX1 18 "CircleCells$Mosaic" "ring" "[I"] ++ wsX10)
def wsX1_sideKey : List Cond := .code yX1_sideKey cX1_sideKey 2 (some .int) :: ([])
def wsX1_claimSides : List Cond := .code yX1_claimSides cX1_claimSides 4 none :: ([.fieldLink RX1 25 "CircleCells$Mosaic" "owner" "[I", .methodLink RX1 96 yX1_sideCount, .instanceMethod yX1_sideCount, .selects RX1 yX1_sideCount yX1_sideCount, .initialized RX1, .code yX1_sideCount cX1_sideCount 2 (some .int), .fieldLink RX1 22 "CircleCells$Mosaic" "start" "[I", .methodLink RX1 100 yX1_siteOf, .instanceMethod yX1_siteOf, .selects RX1 yX1_siteOf yX1_siteOf, .code yX1_siteOf cX1_siteOf 3 (some .int), .fieldLink RX1 18 "CircleCells$Mosaic" "ring" "[I", .methodLink RX1 104 yX1_siteAfter, .instanceMethod yX1_siteAfter, .selects RX1 yX1_siteAfter yX1_siteAfter, .code yX1_siteAfter cX1_siteAfter 3 (some .int), .methodLink RX1 107 yX1_sideKey, .static yX1_sideKey, .code yX1_sideKey cX1_sideKey 2 (some .int)] ++ wsX10)
def wsX1_addCell_r1 : List Cond := [Cond.fieldLink RX1 28 "CircleCells$Mosaic" "cellCount" "I", Cond.fieldLink RX1 22 "CircleCells$Mosaic" "start" "[I", Cond.fieldLink RX1 38 "CircleCells$Mosaic" "sites" "LCircleCells$Sites;", Cond.fieldLink RX1 48 "CircleCells$Sites" "size" "I", Cond.methodLink RX1 71 yX1_powerOf, Cond.instanceMethod yX1_powerOf, Cond.selects RX1 yX1_powerOf yX1_powerOf, Cond.initialized RX1, Cond.code yX1_powerOf cX1_powerOf 2 (some .long), Cond.fieldLink RX1 12 "CircleCells$Mosaic" "circle" "LCircleCells$Circle;", Cond.fieldLink RX1 79 "CircleCells$Sites" "x" "[I", Cond.fieldLink RX1 82 "CircleCells$Sites" "y" "[I", Cond.methodLink RX1 85 yX0_power, Cond.instanceMethod yX0_power, Cond.selects RX0 yX0_power yX0_power, Cond.initialized RX0, Cond.code yX0_power cX0_power 7 (some .long), Cond.fieldLink RX0 13 "CircleCells$Circle" "fromX" "I", Cond.fieldLink RX0 22 "CircleCells$Circle" "fromY" "I", Cond.fieldLink RX0 34 "CircleCells$Circle" "span" "J", Cond.constantLong RX0 32 (2), Cond.fieldLink RX0 25 "CircleCells$Circle" "aimX" "J", Cond.fieldLink RX0 29 "CircleCells$Circle" "aimY" "J", Cond.methodLink RX1 89 yX1_insertRound]
def wsX1_addCell_r2 : List Cond := [Cond.instanceMethod yX1_insertRound, Cond.selects RX1 yX1_insertRound yX1_insertRound, Cond.code yX1_insertRound cX1_insertRound 5 none, Cond.fieldLink RX1 18 "CircleCells$Mosaic" "ring" "[I", Cond.methodLink RX1 67 yX2_turn_, Cond.instanceMethod yX2_turn_, Cond.selects RX2 yX2_turn_ yX2_turn_, Cond.initialized RX2, Cond.code yX2_turn_ cX2_turn_ 4 (some .int), Cond.fieldLink RX2 9 "CircleCells$Sites" "x" "[I", Cond.fieldLink RX2 15 "CircleCells$Sites" "y" "[I", Cond.methodLink RX2 30 yX2_turn, Cond.instanceMethod yX2_turn, Cond.selects RX2 yX2_turn yX2_turn, Cond.code yX2_turn cX2_turn 5 (some .int), Cond.methodLink RX1 93 yX1_claimSides, Cond.instanceMethod yX1_claimSides, Cond.selects RX1 yX1_claimSides yX1_claimSides, Cond.code yX1_claimSides cX1_claimSides 4 none, Cond.fieldLink RX1 25 "CircleCells$Mosaic" "owner" "[I", Cond.methodLink RX1 96 yX1_sideCount, Cond.instanceMethod yX1_sideCount, Cond.selects RX1 yX1_sideCount yX1_sideCount, Cond.code yX1_sideCount cX1_sideCount 2 (some .int)]
def wsX1_addCell_r3 : List Cond := [Cond.methodLink RX1 100 yX1_siteOf, Cond.instanceMethod yX1_siteOf, Cond.selects RX1 yX1_siteOf yX1_siteOf, Cond.code yX1_siteOf cX1_siteOf 3 (some .int), Cond.methodLink RX1 104 yX1_siteAfter, Cond.instanceMethod yX1_siteAfter, Cond.selects RX1 yX1_siteAfter yX1_siteAfter, Cond.code yX1_siteAfter cX1_siteAfter 3 (some .int), Cond.methodLink RX1 107 yX1_sideKey, Cond.static yX1_sideKey, Cond.code yX1_sideKey cX1_sideKey 2 (some .int)]
def wsX1_addCell : List Cond := .code yX1_addCell cX1_addCell 5 none :: ((wsX1_addCell_r1 ++ (wsX1_addCell_r2 ++ wsX1_addCell_r3)) ++ wsX10 ++ wsX20 ++ wsX00)
def wsX1_nextOnRim : List Cond := .code yX1_nextOnRim cX1_nextOnRim 3 (some .int) :: ([.fieldLink RX1 38 "CircleCells$Mosaic" "sites" "LCircleCells$Sites;", .fieldLink RX1 48 "CircleCells$Sites" "size" "I", .fieldLink RX1 25 "CircleCells$Mosaic" "owner" "[I", .methodLink RX1 107 yX1_sideKey, .static yX1_sideKey, .initialized RX1, .code yX1_sideKey cX1_sideKey 2 (some .int)] ++ wsX10 ++ wsX20)
def wsX1_firstOnRim : List Cond := .code yX1_firstOnRim cX1_firstOnRim 2 (some .int) :: ([.fieldLink RX1 38 "CircleCells$Mosaic" "sites" "LCircleCells$Sites;", .fieldLink RX1 48 "CircleCells$Sites" "size" "I", .methodLink RX1 114 yX1_nextOnRim, .instanceMethod yX1_nextOnRim, .selects RX1 yX1_nextOnRim yX1_nextOnRim, .initialized RX1, .code yX1_nextOnRim cX1_nextOnRim 3 (some .int), .fieldLink RX1 25 "CircleCells$Mosaic" "owner" "[I", .methodLink RX1 107 yX1_sideKey, .static yX1_sideKey, .code yX1_sideKey cX1_sideKey 2 (some .int)] ++ wsX10 ++ wsX20)
def wsX1_walkRim : List Cond := .code yX1_walkRim cX1_walkRim 4 none :: ([.fieldLink RX1 35 "CircleCells$Mosaic" "rimCount" "I", .fieldLink RX1 32 "CircleCells$Mosaic" "rim" "[I", .methodLink RX1 110 yX1_firstOnRim, .instanceMethod yX1_firstOnRim, .selects RX1 yX1_firstOnRim yX1_firstOnRim, .initialized RX1, .code yX1_firstOnRim cX1_firstOnRim 2 (some .int), .fieldLink RX1 38 "CircleCells$Mosaic" "sites" "LCircleCells$Sites;", .fieldLink RX1 48 "CircleCells$Sites" "size" "I", .methodLink RX1 114 yX1_nextOnRim, .instanceMethod yX1_nextOnRim, .selects RX1 yX1_nextOnRim yX1_nextOnRim, .code yX1_nextOnRim cX1_nextOnRim 3 (some .int), .fieldLink RX1 25 "CircleCells$Mosaic" "owner" "[I", .methodLink RX1 107 yX1_sideKey, .static yX1_sideKey, .code yX1_sideKey cX1_sideKey 2 (some .int)] ++ wsX10 ++ wsX20)
def wsX1_build_r1 : List Cond := [Cond.fieldLink RX1 28 "CircleCells$Mosaic" "cellCount" "I", Cond.fieldLink RX1 25 "CircleCells$Mosaic" "owner" "[I", Cond.fieldLink RX1 38 "CircleCells$Mosaic" "sites" "LCircleCells$Sites;", Cond.fieldLink RX1 48 "CircleCells$Sites" "size" "I", Cond.methodLink RX1 42 yJ7_fill_53178, Cond.static yJ7_fill_53178, Cond.initialized RJ7, Cond.code yJ7_fill_53178 cJ7_fill_53178 4 none, Cond.methodLink RX1 53 yX1_layLeftOf, Cond.instanceMethod yX1_layLeftOf, Cond.selects RX1 yX1_layLeftOf yX1_layLeftOf, Cond.initialized RX1, Cond.code yX1_layLeftOf cX1_layLeftOf 5 (some .boolean), Cond.fieldLink RX1 12 "CircleCells$Mosaic" "circle" "LCircleCells$Circle;", Cond.methodLink RX1 67 yX2_turn_, Cond.instanceMethod yX2_turn_, Cond.selects RX2 yX2_turn_ yX2_turn_, Cond.initialized RX2, Cond.code yX2_turn_ cX2_turn_ 4 (some .int), Cond.fieldLink RX2 9 "CircleCells$Sites" "x" "[I", Cond.fieldLink RX2 15 "CircleCells$Sites" "y" "[I", Cond.methodLink RX2 30 yX2_turn, Cond.instanceMethod yX2_turn, Cond.selects RX2 yX2_turn yX2_turn]
def wsX1_build_r2 : List Cond := [Cond.code yX2_turn cX2_turn 5 (some .int), Cond.methodLink RX1 71 yX1_powerOf, Cond.instanceMethod yX1_powerOf, Cond.selects RX1 yX1_powerOf yX1_powerOf, Cond.code yX1_powerOf cX1_powerOf 2 (some .long), Cond.fieldLink RX1 79 "CircleCells$Sites" "x" "[I", Cond.fieldLink RX1 82 "CircleCells$Sites" "y" "[I", Cond.methodLink RX1 85 yX0_power, Cond.instanceMethod yX0_power, Cond.selects RX0 yX0_power yX0_power, Cond.initialized RX0, Cond.code yX0_power cX0_power 7 (some .long), Cond.fieldLink RX0 13 "CircleCells$Circle" "fromX" "I", Cond.fieldLink RX0 22 "CircleCells$Circle" "fromY" "I", Cond.fieldLink RX0 34 "CircleCells$Circle" "span" "J", Cond.constantLong RX0 32 (2), Cond.fieldLink RX0 25 "CircleCells$Circle" "aimX" "J", Cond.fieldLink RX0 29 "CircleCells$Circle" "aimY" "J", Cond.methodLink RX1 75 yX0_layThrough, Cond.instanceMethod yX0_layThrough, Cond.selects RX0 yX0_layThrough yX0_layThrough, Cond.code yX0_layThrough cX0_layThrough 17 none, Cond.fieldLink RX0 7 "CircleCells$Sites" "x" "[I", Cond.fieldLink RX0 19 "CircleCells$Sites" "y" "[I"]
def wsX1_build_r3 : List Cond := [Cond.methodLink RX1 57 yX1_beginsCell, Cond.instanceMethod yX1_beginsCell, Cond.selects RX1 yX1_beginsCell yX1_beginsCell, Cond.code yX1_beginsCell cX1_beginsCell 7 (some .boolean), Cond.methodLink RX1 60 yX1_addCell, Cond.instanceMethod yX1_addCell, Cond.selects RX1 yX1_addCell yX1_addCell, Cond.code yX1_addCell cX1_addCell 5 none, Cond.fieldLink RX1 22 "CircleCells$Mosaic" "start" "[I", Cond.methodLink RX1 89 yX1_insertRound, Cond.instanceMethod yX1_insertRound, Cond.selects RX1 yX1_insertRound yX1_insertRound, Cond.code yX1_insertRound cX1_insertRound 5 none, Cond.fieldLink RX1 18 "CircleCells$Mosaic" "ring" "[I", Cond.methodLink RX1 93 yX1_claimSides, Cond.instanceMethod yX1_claimSides, Cond.selects RX1 yX1_claimSides yX1_claimSides, Cond.code yX1_claimSides cX1_claimSides 4 none, Cond.methodLink RX1 96 yX1_sideCount, Cond.instanceMethod yX1_sideCount, Cond.selects RX1 yX1_sideCount yX1_sideCount, Cond.code yX1_sideCount cX1_sideCount 2 (some .int), Cond.methodLink RX1 100 yX1_siteOf, Cond.instanceMethod yX1_siteOf]
def wsX1_build_r4 : List Cond := [Cond.selects RX1 yX1_siteOf yX1_siteOf, Cond.code yX1_siteOf cX1_siteOf 3 (some .int), Cond.methodLink RX1 104 yX1_siteAfter, Cond.instanceMethod yX1_siteAfter, Cond.selects RX1 yX1_siteAfter yX1_siteAfter, Cond.code yX1_siteAfter cX1_siteAfter 3 (some .int), Cond.methodLink RX1 107 yX1_sideKey, Cond.static yX1_sideKey, Cond.code yX1_sideKey cX1_sideKey 2 (some .int), Cond.methodLink RX1 64 yX1_walkRim, Cond.instanceMethod yX1_walkRim, Cond.selects RX1 yX1_walkRim yX1_walkRim, Cond.code yX1_walkRim cX1_walkRim 4 none, Cond.fieldLink RX1 35 "CircleCells$Mosaic" "rimCount" "I", Cond.fieldLink RX1 32 "CircleCells$Mosaic" "rim" "[I", Cond.methodLink RX1 110 yX1_firstOnRim, Cond.instanceMethod yX1_firstOnRim, Cond.selects RX1 yX1_firstOnRim yX1_firstOnRim, Cond.code yX1_firstOnRim cX1_firstOnRim 2 (some .int), Cond.methodLink RX1 114 yX1_nextOnRim, Cond.instanceMethod yX1_nextOnRim, Cond.selects RX1 yX1_nextOnRim yX1_nextOnRim, Cond.code yX1_nextOnRim cX1_nextOnRim 3 (some .int)]
def wsX1_build : List Cond := .code yX1_build cX1_build 3 none :: ((wsX1_build_r1 ++ (wsX1_build_r2 ++ (wsX1_build_r3 ++ wsX1_build_r4))) ++ wsX10 ++ wsX20 ++ wsX00)
def wsX1_across : List Cond := .code yX1_across cX1_across 3 (some .int) :: ([.fieldLink RX1 25 "CircleCells$Mosaic" "owner" "[I", .methodLink RX1 104 yX1_siteAfter, .instanceMethod yX1_siteAfter, .selects RX1 yX1_siteAfter yX1_siteAfter, .initialized RX1, .code yX1_siteAfter cX1_siteAfter 3 (some .int), .methodLink RX1 96 yX1_sideCount, .instanceMethod yX1_sideCount, .selects RX1 yX1_sideCount yX1_sideCount, .code yX1_sideCount cX1_sideCount 2 (some .int), .fieldLink RX1 22 "CircleCells$Mosaic" "start" "[I", .methodLink RX1 100 yX1_siteOf, .instanceMethod yX1_siteOf, .selects RX1 yX1_siteOf yX1_siteOf, .code yX1_siteOf cX1_siteOf 3 (some .int), .fieldLink RX1 18 "CircleCells$Mosaic" "ring" "[I", .methodLink RX1 107 yX1_sideKey, .static yX1_sideKey, .code yX1_sideKey cX1_sideKey 2 (some .int)] ++ wsX10)
def wsX1_circleOf : List Cond := .code yX1_circleOf cX1_circleOf 2 (some (.object "CircleCells$Circle")) :: ([.fieldLink RX1 12 "CircleCells$Mosaic" "circle" "LCircleCells$Circle;", .fieldLink RX1 38 "CircleCells$Mosaic" "sites" "LCircleCells$Sites;", .methodLink RX1 100 yX1_siteOf, .instanceMethod yX1_siteOf, .selects RX1 yX1_siteOf yX1_siteOf, .initialized RX1, .code yX1_siteOf cX1_siteOf 3 (some .int), .fieldLink RX1 18 "CircleCells$Mosaic" "ring" "[I", .fieldLink RX1 22 "CircleCells$Mosaic" "start" "[I", .methodLink RX1 75 yX0_layThrough, .instanceMethod yX0_layThrough, .selects RX0 yX0_layThrough yX0_layThrough, .initialized RX0, .code yX0_layThrough cX0_layThrough 17 none, .fieldLink RX0 7 "CircleCells$Sites" "x" "[I", .fieldLink RX0 13 "CircleCells$Circle" "fromX" "I", .fieldLink RX0 19 "CircleCells$Sites" "y" "[I", .fieldLink RX0 22 "CircleCells$Circle" "fromY" "I", .fieldLink RX0 25 "CircleCells$Circle" "aimX" "J", .fieldLink RX0 29 "CircleCells$Circle" "aimY" "J", .constantLong RX0 32 (2), .fieldLink RX0 34 "CircleCells$Circle" "span" "J"] ++ wsX10 ++ wsX20 ++ wsX00)
def wsX1_holds : List Cond := .code yX1_holds cX1_holds 6 (some .boolean) :: ([.fieldLink RX1 38 "CircleCells$Mosaic" "sites" "LCircleCells$Sites;", .methodLink RX1 96 yX1_sideCount, .instanceMethod yX1_sideCount, .selects RX1 yX1_sideCount yX1_sideCount, .initialized RX1, .code yX1_sideCount cX1_sideCount 2 (some .int), .fieldLink RX1 22 "CircleCells$Mosaic" "start" "[I", .methodLink RX1 100 yX1_siteOf, .instanceMethod yX1_siteOf, .selects RX1 yX1_siteOf yX1_siteOf, .code yX1_siteOf cX1_siteOf 3 (some .int), .fieldLink RX1 18 "CircleCells$Mosaic" "ring" "[I", .methodLink RX1 104 yX1_siteAfter, .instanceMethod yX1_siteAfter, .selects RX1 yX1_siteAfter yX1_siteAfter, .code yX1_siteAfter cX1_siteAfter 3 (some .int), .methodLink RX1 121 yX2_turn, .instanceMethod yX2_turn, .selects RX2 yX2_turn yX2_turn, .initialized RX2, .code yX2_turn cX2_turn 5 (some .int), .fieldLink RX2 9 "CircleCells$Sites" "x" "[I", .fieldLink RX2 15 "CircleCells$Sites" "y" "[I"] ++ wsX10 ++ wsX20)
def wsX1_firstWith_r1 : List Cond := [Cond.fieldLink RX1 28 "CircleCells$Mosaic" "cellCount" "I", Cond.methodLink RX1 117 yX1_holds, Cond.instanceMethod yX1_holds, Cond.selects RX1 yX1_holds yX1_holds, Cond.initialized RX1, Cond.code yX1_holds cX1_holds 6 (some .boolean), Cond.fieldLink RX1 38 "CircleCells$Mosaic" "sites" "LCircleCells$Sites;", Cond.methodLink RX1 96 yX1_sideCount, Cond.instanceMethod yX1_sideCount, Cond.selects RX1 yX1_sideCount yX1_sideCount, Cond.code yX1_sideCount cX1_sideCount 2 (some .int), Cond.fieldLink RX1 22 "CircleCells$Mosaic" "start" "[I", Cond.methodLink RX1 100 yX1_siteOf, Cond.instanceMethod yX1_siteOf, Cond.selects RX1 yX1_siteOf yX1_siteOf, Cond.code yX1_siteOf cX1_siteOf 3 (some .int), Cond.fieldLink RX1 18 "CircleCells$Mosaic" "ring" "[I", Cond.methodLink RX1 104 yX1_siteAfter, Cond.instanceMethod yX1_siteAfter, Cond.selects RX1 yX1_siteAfter yX1_siteAfter, Cond.code yX1_siteAfter cX1_siteAfter 3 (some .int), Cond.methodLink RX1 121 yX2_turn, Cond.instanceMethod yX2_turn, Cond.selects RX2 yX2_turn yX2_turn]
def wsX1_firstWith_r2 : List Cond := [Cond.initialized RX2, Cond.code yX2_turn cX2_turn 5 (some .int), Cond.fieldLink RX2 9 "CircleCells$Sites" "x" "[I", Cond.fieldLink RX2 15 "CircleCells$Sites" "y" "[I"]
def wsX1_firstWith : List Cond := .code yX1_firstWith cX1_firstWith 4 (some .int) :: ((wsX1_firstWith_r1 ++ wsX1_firstWith_r2) ++ wsX10 ++ wsX20)
def wsX2_init : List Cond := .code yX2_init cX2_init 1 none :: ([.methodLink RX2 3 objectInit, .instanceMethod objectInit, .code objectInit ⟨#[0xb1]⟩ 1 none, .arrayClass .int, .fieldLink RX2 9 "CircleCells$Sites" "x" "[I", .fieldLink RX2 15 "CircleCells$Sites" "y" "[I", .fieldLink RX2 18 "CircleCells$Sites" "size" "I"] ++ wsX20)
def wsX2_put : List Cond := .code yX2_put cX2_put 4 none :: ([.fieldLink RX2 9 "CircleCells$Sites" "x" "[I", .fieldLink RX2 15 "CircleCells$Sites" "y" "[I"] ++ wsX20)
def wsX2_append : List Cond := .code yX2_append cX2_append 4 (some .int) :: ([.fieldLink RX2 18 "CircleCells$Sites" "size" "I", .methodLink RX2 22 yX2_put, .instanceMethod yX2_put, .selects RX2 yX2_put yX2_put, .initialized RX2, .code yX2_put cX2_put 4 none, .fieldLink RX2 9 "CircleCells$Sites" "x" "[I", .fieldLink RX2 15 "CircleCells$Sites" "y" "[I"] ++ wsX20)
def wsX2_drop : List Cond := .code yX2_drop cX2_drop 3 none :: ([.fieldLink RX2 18 "CircleCells$Sites" "size" "I", .fieldLink RX2 9 "CircleCells$Sites" "x" "[I", .fieldLink RX2 15 "CircleCells$Sites" "y" "[I", .methodLink RX2 22 yX2_put, .instanceMethod yX2_put, .selects RX2 yX2_put yX2_put, .initialized RX2, .code yX2_put cX2_put 4 none] ++ wsX20)
def wsX2_dropAll : List Cond := .code yX2_dropAll cX2_dropAll 1 none :: ([.fieldLink RX2 18 "CircleCells$Sites" "size" "I"] ++ wsX20)
def wsX2_numberAt : List Cond := .code yX2_numberAt cX2_numberAt 4 (some .int) :: ([.fieldLink RX2 18 "CircleCells$Sites" "size" "I", .fieldLink RX2 9 "CircleCells$Sites" "x" "[I", .fieldLink RX2 15 "CircleCells$Sites" "y" "[I"] ++ wsX20)
def wsX2_squareTo : List Cond := .code yX2_squareTo cX2_squareTo 6 (some .int) :: ([.fieldLink RX2 9 "CircleCells$Sites" "x" "[I", .fieldLink RX2 15 "CircleCells$Sites" "y" "[I"] ++ wsX20)
def wsX2_closestTo : List Cond := .code yX2_closestTo cX2_closestTo 5 (some .int) :: ([.fieldLink RX2 18 "CircleCells$Sites" "size" "I", .methodLink RX2 26 yX2_squareTo, .instanceMethod yX2_squareTo, .selects RX2 yX2_squareTo yX2_squareTo, .initialized RX2, .code yX2_squareTo cX2_squareTo 6 (some .int), .fieldLink RX2 9 "CircleCells$Sites" "x" "[I", .fieldLink RX2 15 "CircleCells$Sites" "y" "[I"] ++ wsX20)
def wsX3_init_r1 : List Cond := [Cond.methodLink RX3 3 objectInit, Cond.instanceMethod objectInit, Cond.code objectInit ⟨#[0xb1]⟩ 1 none, Cond.classLink RX3 9 RX2, Cond.instantiable RX2 3, Cond.initialized RX2, Cond.fieldLink RX3 12 "CircleCells" "sites" "LCircleCells$Sites;", Cond.classLink RX3 16 RX1, Cond.instantiable RX1 8, Cond.initialized RX1, Cond.fieldLink RX3 21 "CircleCells" "mosaic" "LCircleCells$Mosaic;", Cond.fieldLink RX3 25 "CircleCells" "stale" "Z", Cond.instanceMethod yX2_init, Cond.code yX2_init cX2_init 1 none, Cond.methodLink RX2 3 objectInit, Cond.arrayClass .int, Cond.fieldLink RX2 9 "CircleCells$Sites" "x" "[I", Cond.fieldLink RX2 15 "CircleCells$Sites" "y" "[I", Cond.fieldLink RX2 18 "CircleCells$Sites" "size" "I", Cond.methodLink RX3 18 yX1_init, Cond.instanceMethod yX1_init, Cond.code yX1_init cX1_init 2 none, Cond.methodLink RX1 3 objectInit, Cond.classLink RX1 9 RX0]
def wsX3_init_r2 : List Cond := [Cond.instantiable RX0 5, Cond.initialized RX0, Cond.fieldLink RX1 12 "CircleCells$Mosaic" "circle" "LCircleCells$Circle;", Cond.fieldLink RX1 18 "CircleCells$Mosaic" "ring" "[I", Cond.fieldLink RX1 22 "CircleCells$Mosaic" "start" "[I", Cond.fieldLink RX1 25 "CircleCells$Mosaic" "owner" "[I", Cond.fieldLink RX1 28 "CircleCells$Mosaic" "cellCount" "I", Cond.fieldLink RX1 32 "CircleCells$Mosaic" "rim" "[I", Cond.fieldLink RX1 35 "CircleCells$Mosaic" "rimCount" "I", Cond.fieldLink RX1 38 "CircleCells$Mosaic" "sites" "LCircleCells$Sites;", Cond.instanceMethod yX0_init, Cond.code yX0_init cX0_init 1 none, Cond.methodLink RX0 1 objectInit]
def wsX3_init : List Cond := .code yX3_init cX3_init 1 none :: ((wsX3_init_r1 ++ wsX3_init_r2) ++ wsX20 ++ wsX30 ++ wsX10 ++ wsX00)
def wsX3_requirePlace : List Cond := .code yX3_requirePlace cX3_requirePlace 2 none :: ([.classLink RX3 37 "java/lang/IllegalArgumentException", .initialized "java/lang/IllegalArgumentException"] ++ (vx_atS RX3 41 "java/lang/IllegalArgumentException" ["java/lang/RuntimeException", "java/lang/Exception"]).filter goodWord)
def wsX3_site_r1 : List Cond := [Cond.classLink RX3 37 "java/lang/IllegalArgumentException", Cond.initialized "java/lang/IllegalArgumentException", Cond.classLink RX3 48 "java/lang/IllegalStateException", Cond.initialized "java/lang/IllegalStateException", Cond.fieldLink RX3 12 "CircleCells" "sites" "LCircleCells$Sites;", Cond.fieldLink RX3 44 "CircleCells$Sites" "size" "I", Cond.fieldLink RX3 25 "CircleCells" "stale" "Z", Cond.methodLink RX3 29 yX3_requirePlace, Cond.static yX3_requirePlace, Cond.initialized RX3, Cond.code yX3_requirePlace cX3_requirePlace 2 none, Cond.methodLink RX3 33 yX2_numberAt, Cond.instanceMethod yX2_numberAt, Cond.selects RX2 yX2_numberAt yX2_numberAt, Cond.initialized RX2, Cond.code yX2_numberAt cX2_numberAt 4 (some .int), Cond.fieldLink RX2 18 "CircleCells$Sites" "size" "I", Cond.fieldLink RX2 9 "CircleCells$Sites" "x" "[I", Cond.fieldLink RX2 15 "CircleCells$Sites" "y" "[I", Cond.methodLink RX3 53 yX2_append, Cond.instanceMethod yX2_append, Cond.selects RX2 yX2_append yX2_append, Cond.code yX2_append cX2_append 4 (some .int), Cond.methodLink RX2 22 yX2_put]
def wsX3_site_r2 : List Cond := [Cond.instanceMethod yX2_put, Cond.selects RX2 yX2_put yX2_put, Cond.code yX2_put cX2_put 4 none]
def wsX3_site : List Cond := .code yX3_site cX3_site 3 (some .int) :: ((wsX3_site_r1 ++ wsX3_site_r2) ++ wsX30 ++ wsX20 ++ (vx_atS RX3 41 "java/lang/IllegalArgumentException" ["java/lang/RuntimeException", "java/lang/Exception"]).filter goodWord ++ (vx_atS RX3 52 "java/lang/IllegalStateException" ["java/lang/RuntimeException", "java/lang/Exception"]).filter goodWord)
def wsX3_requireSite : List Cond := .code yX3_requireSite cX3_requireSite 2 none :: ([.classLink RX3 37 "java/lang/IllegalArgumentException", .initialized "java/lang/IllegalArgumentException", .fieldLink RX3 12 "CircleCells" "sites" "LCircleCells$Sites;", .fieldLink RX3 44 "CircleCells$Sites" "size" "I"] ++ wsX30 ++ wsX20 ++ (vx_atS RX3 41 "java/lang/IllegalArgumentException" ["java/lang/RuntimeException", "java/lang/Exception"]).filter goodWord)
def wsX3_remove : List Cond := .code yX3_remove cX3_remove 2 none :: ([.fieldLink RX3 25 "CircleCells" "stale" "Z", .fieldLink RX3 12 "CircleCells" "sites" "LCircleCells$Sites;", .methodLink RX3 56 yX3_requireSite, .instanceMethod yX3_requireSite, .selects RX3 yX3_requireSite yX3_requireSite, .initialized RX3, .code yX3_requireSite cX3_requireSite 2 none, .classLink RX3 37 "java/lang/IllegalArgumentException", .initialized "java/lang/IllegalArgumentException", .fieldLink RX3 44 "CircleCells$Sites" "size" "I", .methodLink RX3 60 yX2_drop, .instanceMethod yX2_drop, .selects RX2 yX2_drop yX2_drop, .initialized RX2, .code yX2_drop cX2_drop 3 none, .fieldLink RX2 18 "CircleCells$Sites" "size" "I", .fieldLink RX2 9 "CircleCells$Sites" "x" "[I", .fieldLink RX2 15 "CircleCells$Sites" "y" "[I", .methodLink RX2 22 yX2_put, .instanceMethod yX2_put, .selects RX2 yX2_put yX2_put, .code yX2_put cX2_put 4 none] ++ wsX30 ++ wsX20 ++ (vx_atS RX3 41 "java/lang/IllegalArgumentException" ["java/lang/RuntimeException", "java/lang/Exception"]).filter goodWord)
def wsX3_move_r1 : List Cond := [Cond.classLink RX3 37 "java/lang/IllegalArgumentException", Cond.initialized "java/lang/IllegalArgumentException", Cond.fieldLink RX3 12 "CircleCells" "sites" "LCircleCells$Sites;", Cond.fieldLink RX3 25 "CircleCells" "stale" "Z", Cond.methodLink RX3 56 yX3_requireSite, Cond.instanceMethod yX3_requireSite, Cond.selects RX3 yX3_requireSite yX3_requireSite, Cond.initialized RX3, Cond.code yX3_requireSite cX3_requireSite 2 none, Cond.fieldLink RX3 44 "CircleCells$Sites" "size" "I", Cond.methodLink RX3 29 yX3_requirePlace, Cond.static yX3_requirePlace, Cond.code yX3_requirePlace cX3_requirePlace 2 none, Cond.methodLink RX3 33 yX2_numberAt, Cond.instanceMethod yX2_numberAt, Cond.selects RX2 yX2_numberAt yX2_numberAt, Cond.initialized RX2, Cond.code yX2_numberAt cX2_numberAt 4 (some .int), Cond.fieldLink RX2 18 "CircleCells$Sites" "size" "I", Cond.fieldLink RX2 9 "CircleCells$Sites" "x" "[I", Cond.fieldLink RX2 15 "CircleCells$Sites" "y" "[I", Cond.methodLink RX3 65 yX2_put, Cond.instanceMethod yX2_put, Cond.selects RX2 yX2_put yX2_put]
def wsX3_move_r2 : List Cond := [Cond.code yX2_put cX2_put 4 none]
def wsX3_move : List Cond := .code yX3_move cX3_move 5 none :: ((wsX3_move_r1 ++ wsX3_move_r2) ++ wsX30 ++ wsX20 ++ (vx_atS RX3 41 "java/lang/IllegalArgumentException" ["java/lang/RuntimeException", "java/lang/Exception"]).filter goodWord)
def wsX3_clear : List Cond := .code yX3_clear cX3_clear 1 none :: ([.fieldLink RX3 25 "CircleCells" "stale" "Z", .fieldLink RX3 12 "CircleCells" "sites" "LCircleCells$Sites;", .methodLink RX3 69 yX2_dropAll, .instanceMethod yX2_dropAll, .selects RX2 yX2_dropAll yX2_dropAll, .initialized RX2, .code yX2_dropAll cX2_dropAll 1 none, .fieldLink RX2 18 "CircleCells$Sites" "size" "I"] ++ wsX30 ++ wsX20)
def wsX3_where : List Cond := .code yX3_where cX3_where 3 (some .int) :: ([.classLink RX3 37 "java/lang/IllegalArgumentException", .initialized "java/lang/IllegalArgumentException", .fieldLink RX3 12 "CircleCells" "sites" "LCircleCells$Sites;", .fieldLink RX3 74 "CircleCells$Sites" "x" "[I", .fieldLink RX3 78 "CircleCells$Sites" "y" "[I", .methodLink RX3 56 yX3_requireSite, .instanceMethod yX3_requireSite, .selects RX3 yX3_requireSite yX3_requireSite, .initialized RX3, .code yX3_requireSite cX3_requireSite 2 none, .fieldLink RX3 44 "CircleCells$Sites" "size" "I"] ++ wsX30 ++ wsX20 ++ (vx_atS RX3 41 "java/lang/IllegalArgumentException" ["java/lang/RuntimeException", "java/lang/Exception"]).filter goodWord)
def wsX3_refresh_r1 : List Cond := [Cond.fieldLink RX3 25 "CircleCells" "stale" "Z", Cond.fieldLink RX3 21 "CircleCells" "mosaic" "LCircleCells$Mosaic;", Cond.methodLink RX3 143 yX1_build, Cond.instanceMethod yX1_build, Cond.selects RX1 yX1_build yX1_build, Cond.initialized RX1, Cond.code yX1_build cX1_build 3 none, Cond.fieldLink RX1 28 "CircleCells$Mosaic" "cellCount" "I", Cond.fieldLink RX1 25 "CircleCells$Mosaic" "owner" "[I", Cond.fieldLink RX1 38 "CircleCells$Mosaic" "sites" "LCircleCells$Sites;", Cond.fieldLink RX1 48 "CircleCells$Sites" "size" "I", Cond.methodLink RX1 42 yJ7_fill_53178, Cond.static yJ7_fill_53178, Cond.initialized RJ7, Cond.code yJ7_fill_53178 cJ7_fill_53178 4 none, Cond.methodLink RX1 53 yX1_layLeftOf, Cond.instanceMethod yX1_layLeftOf, Cond.selects RX1 yX1_layLeftOf yX1_layLeftOf, Cond.code yX1_layLeftOf cX1_layLeftOf 5 (some .boolean), Cond.fieldLink RX1 12 "CircleCells$Mosaic" "circle" "LCircleCells$Circle;", Cond.methodLink RX1 67 yX2_turn_, Cond.instanceMethod yX2_turn_, Cond.selects RX2 yX2_turn_ yX2_turn_, Cond.initialized RX2]
def wsX3_refresh_r2 : List Cond := [Cond.code yX2_turn_ cX2_turn_ 4 (some .int), Cond.fieldLink RX2 9 "CircleCells$Sites" "x" "[I", Cond.fieldLink RX2 15 "CircleCells$Sites" "y" "[I", Cond.methodLink RX2 30 yX2_turn, Cond.instanceMethod yX2_turn, Cond.selects RX2 yX2_turn yX2_turn, Cond.code yX2_turn cX2_turn 5 (some .int), Cond.methodLink RX1 71 yX1_powerOf, Cond.instanceMethod yX1_powerOf, Cond.selects RX1 yX1_powerOf yX1_powerOf, Cond.code yX1_powerOf cX1_powerOf 2 (some .long), Cond.fieldLink RX1 79 "CircleCells$Sites" "x" "[I", Cond.fieldLink RX1 82 "CircleCells$Sites" "y" "[I", Cond.methodLink RX1 85 yX0_power, Cond.instanceMethod yX0_power, Cond.selects RX0 yX0_power yX0_power, Cond.initialized RX0, Cond.code yX0_power cX0_power 7 (some .long), Cond.fieldLink RX0 13 "CircleCells$Circle" "fromX" "I", Cond.fieldLink RX0 22 "CircleCells$Circle" "fromY" "I", Cond.fieldLink RX0 34 "CircleCells$Circle" "span" "J", Cond.constantLong RX0 32 (2), Cond.fieldLink RX0 25 "CircleCells$Circle" "aimX" "J", Cond.fieldLink RX0 29 "CircleCells$Circle" "aimY" "J"]
def wsX3_refresh_r3 : List Cond := [Cond.methodLink RX1 75 yX0_layThrough, Cond.instanceMethod yX0_layThrough, Cond.selects RX0 yX0_layThrough yX0_layThrough, Cond.code yX0_layThrough cX0_layThrough 17 none, Cond.fieldLink RX0 7 "CircleCells$Sites" "x" "[I", Cond.fieldLink RX0 19 "CircleCells$Sites" "y" "[I", Cond.methodLink RX1 57 yX1_beginsCell, Cond.instanceMethod yX1_beginsCell, Cond.selects RX1 yX1_beginsCell yX1_beginsCell, Cond.code yX1_beginsCell cX1_beginsCell 7 (some .boolean), Cond.methodLink RX1 60 yX1_addCell, Cond.instanceMethod yX1_addCell, Cond.selects RX1 yX1_addCell yX1_addCell, Cond.code yX1_addCell cX1_addCell 5 none, Cond.fieldLink RX1 22 "CircleCells$Mosaic" "start" "[I", Cond.methodLink RX1 89 yX1_insertRound, Cond.instanceMethod yX1_insertRound, Cond.selects RX1 yX1_insertRound yX1_insertRound, Cond.code yX1_insertRound cX1_insertRound 5 none, Cond.fieldLink RX1 18 "CircleCells$Mosaic" "ring" "[I", Cond.methodLink RX1 93 yX1_claimSides, Cond.instanceMethod yX1_claimSides, Cond.selects RX1 yX1_claimSides yX1_claimSides, Cond.code yX1_claimSides cX1_claimSides 4 none]
def wsX3_refresh_r4 : List Cond := [Cond.methodLink RX1 96 yX1_sideCount, Cond.instanceMethod yX1_sideCount, Cond.selects RX1 yX1_sideCount yX1_sideCount, Cond.code yX1_sideCount cX1_sideCount 2 (some .int), Cond.methodLink RX1 100 yX1_siteOf, Cond.instanceMethod yX1_siteOf, Cond.selects RX1 yX1_siteOf yX1_siteOf, Cond.code yX1_siteOf cX1_siteOf 3 (some .int), Cond.methodLink RX1 104 yX1_siteAfter, Cond.instanceMethod yX1_siteAfter, Cond.selects RX1 yX1_siteAfter yX1_siteAfter, Cond.code yX1_siteAfter cX1_siteAfter 3 (some .int), Cond.methodLink RX1 107 yX1_sideKey, Cond.static yX1_sideKey, Cond.code yX1_sideKey cX1_sideKey 2 (some .int), Cond.methodLink RX1 64 yX1_walkRim, Cond.instanceMethod yX1_walkRim, Cond.selects RX1 yX1_walkRim yX1_walkRim, Cond.code yX1_walkRim cX1_walkRim 4 none, Cond.fieldLink RX1 35 "CircleCells$Mosaic" "rimCount" "I", Cond.fieldLink RX1 32 "CircleCells$Mosaic" "rim" "[I", Cond.methodLink RX1 110 yX1_firstOnRim, Cond.instanceMethod yX1_firstOnRim, Cond.selects RX1 yX1_firstOnRim yX1_firstOnRim]
def wsX3_refresh_r5 : List Cond := [Cond.code yX1_firstOnRim cX1_firstOnRim 2 (some .int), Cond.methodLink RX1 114 yX1_nextOnRim, Cond.instanceMethod yX1_nextOnRim, Cond.selects RX1 yX1_nextOnRim yX1_nextOnRim, Cond.code yX1_nextOnRim cX1_nextOnRim 3 (some .int)]
def wsX3_refresh : List Cond := .code yX3_refresh cX3_refresh 1 none :: ((wsX3_refresh_r1 ++ (wsX3_refresh_r2 ++ (wsX3_refresh_r3 ++ (wsX3_refresh_r4 ++ wsX3_refresh_r5)))) ++ wsX30 ++ wsX10 ++ wsX20 ++ wsX00)
def wsX3_cells_r1 : List Cond := [Cond.fieldLink RX3 21 "CircleCells" "mosaic" "LCircleCells$Mosaic;", Cond.fieldLink RX3 84 "CircleCells$Mosaic" "cellCount" "I", Cond.methodLink RX3 81 yX3_refresh, Cond.instanceMethod yX3_refresh, Cond.selects RX3 yX3_refresh yX3_refresh, Cond.initialized RX3, Cond.code yX3_refresh cX3_refresh 1 none, Cond.fieldLink RX3 25 "CircleCells" "stale" "Z", Cond.methodLink RX3 143 yX1_build, Cond.instanceMethod yX1_build, Cond.selects RX1 yX1_build yX1_build, Cond.initialized RX1, Cond.code yX1_build cX1_build 3 none, Cond.fieldLink RX1 28 "CircleCells$Mosaic" "cellCount" "I", Cond.fieldLink RX1 25 "CircleCells$Mosaic" "owner" "[I", Cond.fieldLink RX1 38 "CircleCells$Mosaic" "sites" "LCircleCells$Sites;", Cond.fieldLink RX1 48 "CircleCells$Sites" "size" "I", Cond.methodLink RX1 42 yJ7_fill_53178, Cond.static yJ7_fill_53178, Cond.initialized RJ7, Cond.code yJ7_fill_53178 cJ7_fill_53178 4 none, Cond.methodLink RX1 53 yX1_layLeftOf, Cond.instanceMethod yX1_layLeftOf, Cond.selects RX1 yX1_layLeftOf yX1_layLeftOf]
def wsX3_cells_r2 : List Cond := [Cond.code yX1_layLeftOf cX1_layLeftOf 5 (some .boolean), Cond.fieldLink RX1 12 "CircleCells$Mosaic" "circle" "LCircleCells$Circle;", Cond.methodLink RX1 67 yX2_turn_, Cond.instanceMethod yX2_turn_, Cond.selects RX2 yX2_turn_ yX2_turn_, Cond.initialized RX2, Cond.code yX2_turn_ cX2_turn_ 4 (some .int), Cond.fieldLink RX2 9 "CircleCells$Sites" "x" "[I", Cond.fieldLink RX2 15 "CircleCells$Sites" "y" "[I", Cond.methodLink RX2 30 yX2_turn, Cond.instanceMethod yX2_turn, Cond.selects RX2 yX2_turn yX2_turn, Cond.code yX2_turn cX2_turn 5 (some .int), Cond.methodLink RX1 71 yX1_powerOf, Cond.instanceMethod yX1_powerOf, Cond.selects RX1 yX1_powerOf yX1_powerOf, Cond.code yX1_powerOf cX1_powerOf 2 (some .long), Cond.fieldLink RX1 79 "CircleCells$Sites" "x" "[I", Cond.fieldLink RX1 82 "CircleCells$Sites" "y" "[I", Cond.methodLink RX1 85 yX0_power, Cond.instanceMethod yX0_power, Cond.selects RX0 yX0_power yX0_power, Cond.initialized RX0, Cond.code yX0_power cX0_power 7 (some .long)]
def wsX3_cells_r3 : List Cond := [Cond.fieldLink RX0 13 "CircleCells$Circle" "fromX" "I", Cond.fieldLink RX0 22 "CircleCells$Circle" "fromY" "I", Cond.fieldLink RX0 34 "CircleCells$Circle" "span" "J", Cond.constantLong RX0 32 (2), Cond.fieldLink RX0 25 "CircleCells$Circle" "aimX" "J", Cond.fieldLink RX0 29 "CircleCells$Circle" "aimY" "J", Cond.methodLink RX1 75 yX0_layThrough, Cond.instanceMethod yX0_layThrough, Cond.selects RX0 yX0_layThrough yX0_layThrough, Cond.code yX0_layThrough cX0_layThrough 17 none, Cond.fieldLink RX0 7 "CircleCells$Sites" "x" "[I", Cond.fieldLink RX0 19 "CircleCells$Sites" "y" "[I", Cond.methodLink RX1 57 yX1_beginsCell, Cond.instanceMethod yX1_beginsCell, Cond.selects RX1 yX1_beginsCell yX1_beginsCell, Cond.code yX1_beginsCell cX1_beginsCell 7 (some .boolean), Cond.methodLink RX1 60 yX1_addCell, Cond.instanceMethod yX1_addCell, Cond.selects RX1 yX1_addCell yX1_addCell, Cond.code yX1_addCell cX1_addCell 5 none, Cond.fieldLink RX1 22 "CircleCells$Mosaic" "start" "[I", Cond.methodLink RX1 89 yX1_insertRound, Cond.instanceMethod yX1_insertRound, Cond.selects RX1 yX1_insertRound yX1_insertRound]
def wsX3_cells_r4 : List Cond := [Cond.code yX1_insertRound cX1_insertRound 5 none, Cond.fieldLink RX1 18 "CircleCells$Mosaic" "ring" "[I", Cond.methodLink RX1 93 yX1_claimSides, Cond.instanceMethod yX1_claimSides, Cond.selects RX1 yX1_claimSides yX1_claimSides, Cond.code yX1_claimSides cX1_claimSides 4 none, Cond.methodLink RX1 96 yX1_sideCount, Cond.instanceMethod yX1_sideCount, Cond.selects RX1 yX1_sideCount yX1_sideCount, Cond.code yX1_sideCount cX1_sideCount 2 (some .int), Cond.methodLink RX1 100 yX1_siteOf, Cond.instanceMethod yX1_siteOf, Cond.selects RX1 yX1_siteOf yX1_siteOf, Cond.code yX1_siteOf cX1_siteOf 3 (some .int), Cond.methodLink RX1 104 yX1_siteAfter, Cond.instanceMethod yX1_siteAfter, Cond.selects RX1 yX1_siteAfter yX1_siteAfter, Cond.code yX1_siteAfter cX1_siteAfter 3 (some .int), Cond.methodLink RX1 107 yX1_sideKey, Cond.static yX1_sideKey, Cond.code yX1_sideKey cX1_sideKey 2 (some .int), Cond.methodLink RX1 64 yX1_walkRim, Cond.instanceMethod yX1_walkRim, Cond.selects RX1 yX1_walkRim yX1_walkRim]
def wsX3_cells_r5 : List Cond := [Cond.code yX1_walkRim cX1_walkRim 4 none, Cond.fieldLink RX1 35 "CircleCells$Mosaic" "rimCount" "I", Cond.fieldLink RX1 32 "CircleCells$Mosaic" "rim" "[I", Cond.methodLink RX1 110 yX1_firstOnRim, Cond.instanceMethod yX1_firstOnRim, Cond.selects RX1 yX1_firstOnRim yX1_firstOnRim, Cond.code yX1_firstOnRim cX1_firstOnRim 2 (some .int), Cond.methodLink RX1 114 yX1_nextOnRim, Cond.instanceMethod yX1_nextOnRim, Cond.selects RX1 yX1_nextOnRim yX1_nextOnRim, Cond.code yX1_nextOnRim cX1_nextOnRim 3 (some .int)]
def wsX3_cells : List Cond := .code yX3_cells cX3_cells 1 (some .int) :: ((wsX3_cells_r1 ++ (wsX3_cells_r2 ++ (wsX3_cells_r3 ++ (wsX3_cells_r4 ++ wsX3_cells_r5)))) ++ wsX30 ++ wsX10 ++ wsX20 ++ wsX00)
def wsX3_requireCell : List Cond := .code yX3_requireCell cX3_requireCell 2 none :: ([.classLink RX3 133 "java/util/NoSuchElementException", .initialized "java/util/NoSuchElementException", .fieldLink RX3 21 "CircleCells" "mosaic" "LCircleCells$Mosaic;", .fieldLink RX3 84 "CircleCells$Mosaic" "cellCount" "I"] ++ wsX30 ++ wsX10 ++ (q_atN RX3 137).filter goodWord)
def wsX3_requireIndex : List Cond := .code yX3_requireIndex cX3_requireIndex 2 none :: ([.classLink RX3 138 "java/lang/IndexOutOfBoundsException", .initialized "java/lang/IndexOutOfBoundsException"] ++ (vx_atS RX3 142 "java/lang/IndexOutOfBoundsException" ["java/lang/RuntimeException", "java/lang/Exception"]).filter goodWord)
def wsX3_cell_r1 : List Cond := [Cond.fieldLink RX3 21 "CircleCells" "mosaic" "LCircleCells$Mosaic;", Cond.methodLink RX3 81 yX3_refresh, Cond.instanceMethod yX3_refresh, Cond.selects RX3 yX3_refresh yX3_refresh, Cond.initialized RX3, Cond.code yX3_refresh cX3_refresh 1 none, Cond.fieldLink RX3 25 "CircleCells" "stale" "Z", Cond.methodLink RX3 143 yX1_build, Cond.instanceMethod yX1_build, Cond.selects RX1 yX1_build yX1_build, Cond.initialized RX1, Cond.code yX1_build cX1_build 3 none, Cond.fieldLink RX1 28 "CircleCells$Mosaic" "cellCount" "I", Cond.fieldLink RX1 25 "CircleCells$Mosaic" "owner" "[I", Cond.fieldLink RX1 38 "CircleCells$Mosaic" "sites" "LCircleCells$Sites;", Cond.fieldLink RX1 48 "CircleCells$Sites" "size" "I", Cond.methodLink RX1 42 yJ7_fill_53178, Cond.static yJ7_fill_53178, Cond.initialized RJ7, Cond.code yJ7_fill_53178 cJ7_fill_53178 4 none, Cond.methodLink RX1 53 yX1_layLeftOf, Cond.instanceMethod yX1_layLeftOf, Cond.selects RX1 yX1_layLeftOf yX1_layLeftOf, Cond.code yX1_layLeftOf cX1_layLeftOf 5 (some .boolean)]
def wsX3_cell_r2 : List Cond := [Cond.fieldLink RX1 12 "CircleCells$Mosaic" "circle" "LCircleCells$Circle;", Cond.methodLink RX1 67 yX2_turn_, Cond.instanceMethod yX2_turn_, Cond.selects RX2 yX2_turn_ yX2_turn_, Cond.initialized RX2, Cond.code yX2_turn_ cX2_turn_ 4 (some .int), Cond.fieldLink RX2 9 "CircleCells$Sites" "x" "[I", Cond.fieldLink RX2 15 "CircleCells$Sites" "y" "[I", Cond.methodLink RX2 30 yX2_turn, Cond.instanceMethod yX2_turn, Cond.selects RX2 yX2_turn yX2_turn, Cond.code yX2_turn cX2_turn 5 (some .int), Cond.methodLink RX1 71 yX1_powerOf, Cond.instanceMethod yX1_powerOf, Cond.selects RX1 yX1_powerOf yX1_powerOf, Cond.code yX1_powerOf cX1_powerOf 2 (some .long), Cond.fieldLink RX1 79 "CircleCells$Sites" "x" "[I", Cond.fieldLink RX1 82 "CircleCells$Sites" "y" "[I", Cond.methodLink RX1 85 yX0_power, Cond.instanceMethod yX0_power, Cond.selects RX0 yX0_power yX0_power, Cond.initialized RX0, Cond.code yX0_power cX0_power 7 (some .long), Cond.fieldLink RX0 13 "CircleCells$Circle" "fromX" "I"]
def wsX3_cell_r3 : List Cond := [Cond.fieldLink RX0 22 "CircleCells$Circle" "fromY" "I", Cond.fieldLink RX0 34 "CircleCells$Circle" "span" "J", Cond.constantLong RX0 32 (2), Cond.fieldLink RX0 25 "CircleCells$Circle" "aimX" "J", Cond.fieldLink RX0 29 "CircleCells$Circle" "aimY" "J", Cond.methodLink RX1 75 yX0_layThrough, Cond.instanceMethod yX0_layThrough, Cond.selects RX0 yX0_layThrough yX0_layThrough, Cond.code yX0_layThrough cX0_layThrough 17 none, Cond.fieldLink RX0 7 "CircleCells$Sites" "x" "[I", Cond.fieldLink RX0 19 "CircleCells$Sites" "y" "[I", Cond.methodLink RX1 57 yX1_beginsCell, Cond.instanceMethod yX1_beginsCell, Cond.selects RX1 yX1_beginsCell yX1_beginsCell, Cond.code yX1_beginsCell cX1_beginsCell 7 (some .boolean), Cond.methodLink RX1 60 yX1_addCell, Cond.instanceMethod yX1_addCell, Cond.selects RX1 yX1_addCell yX1_addCell, Cond.code yX1_addCell cX1_addCell 5 none, Cond.fieldLink RX1 22 "CircleCells$Mosaic" "start" "[I", Cond.methodLink RX1 89 yX1_insertRound, Cond.instanceMethod yX1_insertRound, Cond.selects RX1 yX1_insertRound yX1_insertRound, Cond.code yX1_insertRound cX1_insertRound 5 none]
def wsX3_cell_r4 : List Cond := [Cond.fieldLink RX1 18 "CircleCells$Mosaic" "ring" "[I", Cond.methodLink RX1 93 yX1_claimSides, Cond.instanceMethod yX1_claimSides, Cond.selects RX1 yX1_claimSides yX1_claimSides, Cond.code yX1_claimSides cX1_claimSides 4 none, Cond.methodLink RX1 96 yX1_sideCount, Cond.instanceMethod yX1_sideCount, Cond.selects RX1 yX1_sideCount yX1_sideCount, Cond.code yX1_sideCount cX1_sideCount 2 (some .int), Cond.methodLink RX1 100 yX1_siteOf, Cond.instanceMethod yX1_siteOf, Cond.selects RX1 yX1_siteOf yX1_siteOf, Cond.code yX1_siteOf cX1_siteOf 3 (some .int), Cond.methodLink RX1 104 yX1_siteAfter, Cond.instanceMethod yX1_siteAfter, Cond.selects RX1 yX1_siteAfter yX1_siteAfter, Cond.code yX1_siteAfter cX1_siteAfter 3 (some .int), Cond.methodLink RX1 107 yX1_sideKey, Cond.static yX1_sideKey, Cond.code yX1_sideKey cX1_sideKey 2 (some .int), Cond.methodLink RX1 64 yX1_walkRim, Cond.instanceMethod yX1_walkRim, Cond.selects RX1 yX1_walkRim yX1_walkRim, Cond.code yX1_walkRim cX1_walkRim 4 none]
def wsX3_cell_r5 : List Cond := [Cond.fieldLink RX1 35 "CircleCells$Mosaic" "rimCount" "I", Cond.fieldLink RX1 32 "CircleCells$Mosaic" "rim" "[I", Cond.methodLink RX1 110 yX1_firstOnRim, Cond.instanceMethod yX1_firstOnRim, Cond.selects RX1 yX1_firstOnRim yX1_firstOnRim, Cond.code yX1_firstOnRim cX1_firstOnRim 2 (some .int), Cond.methodLink RX1 114 yX1_nextOnRim, Cond.instanceMethod yX1_nextOnRim, Cond.selects RX1 yX1_nextOnRim yX1_nextOnRim, Cond.code yX1_nextOnRim cX1_nextOnRim 3 (some .int), Cond.methodLink RX3 87 yX3_requireCell, Cond.instanceMethod yX3_requireCell, Cond.selects RX3 yX3_requireCell yX3_requireCell, Cond.code yX3_requireCell cX3_requireCell 2 none, Cond.classLink RX3 133 "java/util/NoSuchElementException", Cond.initialized "java/util/NoSuchElementException", Cond.fieldLink RX3 84 "CircleCells$Mosaic" "cellCount" "I", Cond.methodLink RX3 90 yX1_sideCount, Cond.methodLink RX3 94 yX3_requireIndex, Cond.static yX3_requireIndex, Cond.code yX3_requireIndex cX3_requireIndex 2 none, Cond.classLink RX3 138 "java/lang/IndexOutOfBoundsException", Cond.initialized "java/lang/IndexOutOfBoundsException", Cond.methodLink RX3 97 yX1_siteOf]
def wsX3_cell : List Cond := .code yX3_cell cX3_cell 4 (some .int) :: ((wsX3_cell_r1 ++ (wsX3_cell_r2 ++ (wsX3_cell_r3 ++ (wsX3_cell_r4 ++ wsX3_cell_r5)))) ++ wsX30 ++ wsX10 ++ wsX20 ++ wsX00 ++ (q_atN RX3 137).filter goodWord ++ (vx_atS RX3 142 "java/lang/IndexOutOfBoundsException" ["java/lang/RuntimeException", "java/lang/Exception"]).filter goodWord)
def wsX3_beside_r1 : List Cond := [Cond.fieldLink RX3 21 "CircleCells" "mosaic" "LCircleCells$Mosaic;", Cond.methodLink RX3 81 yX3_refresh, Cond.instanceMethod yX3_refresh, Cond.selects RX3 yX3_refresh yX3_refresh, Cond.initialized RX3, Cond.code yX3_refresh cX3_refresh 1 none, Cond.fieldLink RX3 25 "CircleCells" "stale" "Z", Cond.methodLink RX3 143 yX1_build, Cond.instanceMethod yX1_build, Cond.selects RX1 yX1_build yX1_build, Cond.initialized RX1, Cond.code yX1_build cX1_build 3 none, Cond.fieldLink RX1 28 "CircleCells$Mosaic" "cellCount" "I", Cond.fieldLink RX1 25 "CircleCells$Mosaic" "owner" "[I", Cond.fieldLink RX1 38 "CircleCells$Mosaic" "sites" "LCircleCells$Sites;", Cond.fieldLink RX1 48 "CircleCells$Sites" "size" "I", Cond.methodLink RX1 42 yJ7_fill_53178, Cond.static yJ7_fill_53178, Cond.initialized RJ7, Cond.code yJ7_fill_53178 cJ7_fill_53178 4 none, Cond.methodLink RX1 53 yX1_layLeftOf, Cond.instanceMethod yX1_layLeftOf, Cond.selects RX1 yX1_layLeftOf yX1_layLeftOf, Cond.code yX1_layLeftOf cX1_layLeftOf 5 (some .boolean)]
def wsX3_beside_r2 : List Cond := [Cond.fieldLink RX1 12 "CircleCells$Mosaic" "circle" "LCircleCells$Circle;", Cond.methodLink RX1 67 yX2_turn_, Cond.instanceMethod yX2_turn_, Cond.selects RX2 yX2_turn_ yX2_turn_, Cond.initialized RX2, Cond.code yX2_turn_ cX2_turn_ 4 (some .int), Cond.fieldLink RX2 9 "CircleCells$Sites" "x" "[I", Cond.fieldLink RX2 15 "CircleCells$Sites" "y" "[I", Cond.methodLink RX2 30 yX2_turn, Cond.instanceMethod yX2_turn, Cond.selects RX2 yX2_turn yX2_turn, Cond.code yX2_turn cX2_turn 5 (some .int), Cond.methodLink RX1 71 yX1_powerOf, Cond.instanceMethod yX1_powerOf, Cond.selects RX1 yX1_powerOf yX1_powerOf, Cond.code yX1_powerOf cX1_powerOf 2 (some .long), Cond.fieldLink RX1 79 "CircleCells$Sites" "x" "[I", Cond.fieldLink RX1 82 "CircleCells$Sites" "y" "[I", Cond.methodLink RX1 85 yX0_power, Cond.instanceMethod yX0_power, Cond.selects RX0 yX0_power yX0_power, Cond.initialized RX0, Cond.code yX0_power cX0_power 7 (some .long), Cond.fieldLink RX0 13 "CircleCells$Circle" "fromX" "I"]
def wsX3_beside_r3 : List Cond := [Cond.fieldLink RX0 22 "CircleCells$Circle" "fromY" "I", Cond.fieldLink RX0 34 "CircleCells$Circle" "span" "J", Cond.constantLong RX0 32 (2), Cond.fieldLink RX0 25 "CircleCells$Circle" "aimX" "J", Cond.fieldLink RX0 29 "CircleCells$Circle" "aimY" "J", Cond.methodLink RX1 75 yX0_layThrough, Cond.instanceMethod yX0_layThrough, Cond.selects RX0 yX0_layThrough yX0_layThrough, Cond.code yX0_layThrough cX0_layThrough 17 none, Cond.fieldLink RX0 7 "CircleCells$Sites" "x" "[I", Cond.fieldLink RX0 19 "CircleCells$Sites" "y" "[I", Cond.methodLink RX1 57 yX1_beginsCell, Cond.instanceMethod yX1_beginsCell, Cond.selects RX1 yX1_beginsCell yX1_beginsCell, Cond.code yX1_beginsCell cX1_beginsCell 7 (some .boolean), Cond.methodLink RX1 60 yX1_addCell, Cond.instanceMethod yX1_addCell, Cond.selects RX1 yX1_addCell yX1_addCell, Cond.code yX1_addCell cX1_addCell 5 none, Cond.fieldLink RX1 22 "CircleCells$Mosaic" "start" "[I", Cond.methodLink RX1 89 yX1_insertRound, Cond.instanceMethod yX1_insertRound, Cond.selects RX1 yX1_insertRound yX1_insertRound, Cond.code yX1_insertRound cX1_insertRound 5 none]
def wsX3_beside_r4 : List Cond := [Cond.fieldLink RX1 18 "CircleCells$Mosaic" "ring" "[I", Cond.methodLink RX1 93 yX1_claimSides, Cond.instanceMethod yX1_claimSides, Cond.selects RX1 yX1_claimSides yX1_claimSides, Cond.code yX1_claimSides cX1_claimSides 4 none, Cond.methodLink RX1 96 yX1_sideCount, Cond.instanceMethod yX1_sideCount, Cond.selects RX1 yX1_sideCount yX1_sideCount, Cond.code yX1_sideCount cX1_sideCount 2 (some .int), Cond.methodLink RX1 100 yX1_siteOf, Cond.instanceMethod yX1_siteOf, Cond.selects RX1 yX1_siteOf yX1_siteOf, Cond.code yX1_siteOf cX1_siteOf 3 (some .int), Cond.methodLink RX1 104 yX1_siteAfter, Cond.instanceMethod yX1_siteAfter, Cond.selects RX1 yX1_siteAfter yX1_siteAfter, Cond.code yX1_siteAfter cX1_siteAfter 3 (some .int), Cond.methodLink RX1 107 yX1_sideKey, Cond.static yX1_sideKey, Cond.code yX1_sideKey cX1_sideKey 2 (some .int), Cond.methodLink RX1 64 yX1_walkRim, Cond.instanceMethod yX1_walkRim, Cond.selects RX1 yX1_walkRim yX1_walkRim, Cond.code yX1_walkRim cX1_walkRim 4 none]
def wsX3_beside_r5 : List Cond := [Cond.fieldLink RX1 35 "CircleCells$Mosaic" "rimCount" "I", Cond.fieldLink RX1 32 "CircleCells$Mosaic" "rim" "[I", Cond.methodLink RX1 110 yX1_firstOnRim, Cond.instanceMethod yX1_firstOnRim, Cond.selects RX1 yX1_firstOnRim yX1_firstOnRim, Cond.code yX1_firstOnRim cX1_firstOnRim 2 (some .int), Cond.methodLink RX1 114 yX1_nextOnRim, Cond.instanceMethod yX1_nextOnRim, Cond.selects RX1 yX1_nextOnRim yX1_nextOnRim, Cond.code yX1_nextOnRim cX1_nextOnRim 3 (some .int), Cond.methodLink RX3 87 yX3_requireCell, Cond.instanceMethod yX3_requireCell, Cond.selects RX3 yX3_requireCell yX3_requireCell, Cond.code yX3_requireCell cX3_requireCell 2 none, Cond.classLink RX3 133 "java/util/NoSuchElementException", Cond.initialized "java/util/NoSuchElementException", Cond.fieldLink RX3 84 "CircleCells$Mosaic" "cellCount" "I", Cond.methodLink RX3 90 yX1_sideCount, Cond.methodLink RX3 94 yX3_requireIndex, Cond.static yX3_requireIndex, Cond.code yX3_requireIndex cX3_requireIndex 2 none, Cond.classLink RX3 138 "java/lang/IndexOutOfBoundsException", Cond.initialized "java/lang/IndexOutOfBoundsException", Cond.methodLink RX3 100 yX1_across]
def wsX3_beside_r6 : List Cond := [Cond.instanceMethod yX1_across, Cond.selects RX1 yX1_across yX1_across, Cond.code yX1_across cX1_across 3 (some .int)]
def wsX3_beside : List Cond := .code yX3_beside cX3_beside 3 (some .int) :: ((wsX3_beside_r1 ++ (wsX3_beside_r2 ++ (wsX3_beside_r3 ++ (wsX3_beside_r4 ++ (wsX3_beside_r5 ++ wsX3_beside_r6))))) ++ wsX30 ++ wsX10 ++ wsX20 ++ wsX00 ++ (q_atN RX3 137).filter goodWord ++ (vx_atS RX3 142 "java/lang/IndexOutOfBoundsException" ["java/lang/RuntimeException", "java/lang/Exception"]).filter goodWord)
def wsX3_centre_r1 : List Cond := [Cond.classLink RX3 37 "java/lang/IllegalArgumentException", Cond.initialized "java/lang/IllegalArgumentException", Cond.fieldLink RX3 21 "CircleCells" "mosaic" "LCircleCells$Mosaic;", Cond.methodLink RX3 81 yX3_refresh, Cond.instanceMethod yX3_refresh, Cond.selects RX3 yX3_refresh yX3_refresh, Cond.initialized RX3, Cond.code yX3_refresh cX3_refresh 1 none, Cond.fieldLink RX3 25 "CircleCells" "stale" "Z", Cond.methodLink RX3 143 yX1_build, Cond.instanceMethod yX1_build, Cond.selects RX1 yX1_build yX1_build, Cond.initialized RX1, Cond.code yX1_build cX1_build 3 none, Cond.fieldLink RX1 28 "CircleCells$Mosaic" "cellCount" "I", Cond.fieldLink RX1 25 "CircleCells$Mosaic" "owner" "[I", Cond.fieldLink RX1 38 "CircleCells$Mosaic" "sites" "LCircleCells$Sites;", Cond.fieldLink RX1 48 "CircleCells$Sites" "size" "I", Cond.methodLink RX1 42 yJ7_fill_53178, Cond.static yJ7_fill_53178, Cond.initialized RJ7, Cond.code yJ7_fill_53178 cJ7_fill_53178 4 none, Cond.methodLink RX1 53 yX1_layLeftOf, Cond.instanceMethod yX1_layLeftOf]
def wsX3_centre_r2 : List Cond := [Cond.selects RX1 yX1_layLeftOf yX1_layLeftOf, Cond.code yX1_layLeftOf cX1_layLeftOf 5 (some .boolean), Cond.fieldLink RX1 12 "CircleCells$Mosaic" "circle" "LCircleCells$Circle;", Cond.methodLink RX1 67 yX2_turn_, Cond.instanceMethod yX2_turn_, Cond.selects RX2 yX2_turn_ yX2_turn_, Cond.initialized RX2, Cond.code yX2_turn_ cX2_turn_ 4 (some .int), Cond.fieldLink RX2 9 "CircleCells$Sites" "x" "[I", Cond.fieldLink RX2 15 "CircleCells$Sites" "y" "[I", Cond.methodLink RX2 30 yX2_turn, Cond.instanceMethod yX2_turn, Cond.selects RX2 yX2_turn yX2_turn, Cond.code yX2_turn cX2_turn 5 (some .int), Cond.methodLink RX1 71 yX1_powerOf, Cond.instanceMethod yX1_powerOf, Cond.selects RX1 yX1_powerOf yX1_powerOf, Cond.code yX1_powerOf cX1_powerOf 2 (some .long), Cond.fieldLink RX1 79 "CircleCells$Sites" "x" "[I", Cond.fieldLink RX1 82 "CircleCells$Sites" "y" "[I", Cond.methodLink RX1 85 yX0_power, Cond.instanceMethod yX0_power, Cond.selects RX0 yX0_power yX0_power, Cond.initialized RX0]
def wsX3_centre_r3 : List Cond := [Cond.code yX0_power cX0_power 7 (some .long), Cond.fieldLink RX0 13 "CircleCells$Circle" "fromX" "I", Cond.fieldLink RX0 22 "CircleCells$Circle" "fromY" "I", Cond.fieldLink RX0 34 "CircleCells$Circle" "span" "J", Cond.constantLong RX0 32 (2), Cond.fieldLink RX0 25 "CircleCells$Circle" "aimX" "J", Cond.fieldLink RX0 29 "CircleCells$Circle" "aimY" "J", Cond.methodLink RX1 75 yX0_layThrough, Cond.instanceMethod yX0_layThrough, Cond.selects RX0 yX0_layThrough yX0_layThrough, Cond.code yX0_layThrough cX0_layThrough 17 none, Cond.fieldLink RX0 7 "CircleCells$Sites" "x" "[I", Cond.fieldLink RX0 19 "CircleCells$Sites" "y" "[I", Cond.methodLink RX1 57 yX1_beginsCell, Cond.instanceMethod yX1_beginsCell, Cond.selects RX1 yX1_beginsCell yX1_beginsCell, Cond.code yX1_beginsCell cX1_beginsCell 7 (some .boolean), Cond.methodLink RX1 60 yX1_addCell, Cond.instanceMethod yX1_addCell, Cond.selects RX1 yX1_addCell yX1_addCell, Cond.code yX1_addCell cX1_addCell 5 none, Cond.fieldLink RX1 22 "CircleCells$Mosaic" "start" "[I", Cond.methodLink RX1 89 yX1_insertRound, Cond.instanceMethod yX1_insertRound]
def wsX3_centre_r4 : List Cond := [Cond.selects RX1 yX1_insertRound yX1_insertRound, Cond.code yX1_insertRound cX1_insertRound 5 none, Cond.fieldLink RX1 18 "CircleCells$Mosaic" "ring" "[I", Cond.methodLink RX1 93 yX1_claimSides, Cond.instanceMethod yX1_claimSides, Cond.selects RX1 yX1_claimSides yX1_claimSides, Cond.code yX1_claimSides cX1_claimSides 4 none, Cond.methodLink RX1 96 yX1_sideCount, Cond.instanceMethod yX1_sideCount, Cond.selects RX1 yX1_sideCount yX1_sideCount, Cond.code yX1_sideCount cX1_sideCount 2 (some .int), Cond.methodLink RX1 100 yX1_siteOf, Cond.instanceMethod yX1_siteOf, Cond.selects RX1 yX1_siteOf yX1_siteOf, Cond.code yX1_siteOf cX1_siteOf 3 (some .int), Cond.methodLink RX1 104 yX1_siteAfter, Cond.instanceMethod yX1_siteAfter, Cond.selects RX1 yX1_siteAfter yX1_siteAfter, Cond.code yX1_siteAfter cX1_siteAfter 3 (some .int), Cond.methodLink RX1 107 yX1_sideKey, Cond.static yX1_sideKey, Cond.code yX1_sideKey cX1_sideKey 2 (some .int), Cond.methodLink RX1 64 yX1_walkRim, Cond.instanceMethod yX1_walkRim]
def wsX3_centre_r5 : List Cond := [Cond.selects RX1 yX1_walkRim yX1_walkRim, Cond.code yX1_walkRim cX1_walkRim 4 none, Cond.fieldLink RX1 35 "CircleCells$Mosaic" "rimCount" "I", Cond.fieldLink RX1 32 "CircleCells$Mosaic" "rim" "[I", Cond.methodLink RX1 110 yX1_firstOnRim, Cond.instanceMethod yX1_firstOnRim, Cond.selects RX1 yX1_firstOnRim yX1_firstOnRim, Cond.code yX1_firstOnRim cX1_firstOnRim 2 (some .int), Cond.methodLink RX1 114 yX1_nextOnRim, Cond.instanceMethod yX1_nextOnRim, Cond.selects RX1 yX1_nextOnRim yX1_nextOnRim, Cond.code yX1_nextOnRim cX1_nextOnRim 3 (some .int), Cond.methodLink RX3 87 yX3_requireCell, Cond.instanceMethod yX3_requireCell, Cond.selects RX3 yX3_requireCell yX3_requireCell, Cond.code yX3_requireCell cX3_requireCell 2 none, Cond.classLink RX3 133 "java/util/NoSuchElementException", Cond.initialized "java/util/NoSuchElementException", Cond.fieldLink RX3 84 "CircleCells$Mosaic" "cellCount" "I", Cond.methodLink RX3 105 yX1_circleOf, Cond.instanceMethod yX1_circleOf, Cond.selects RX1 yX1_circleOf yX1_circleOf, Cond.code yX1_circleOf cX1_circleOf 2 (some (.object "CircleCells$Circle")), Cond.methodLink RX3 109 yX0_middle]
def wsX3_centre_r6 : List Cond := [Cond.instanceMethod yX0_middle, Cond.selects RX0 yX0_middle yX0_middle, Cond.code yX0_middle cX0_middle 10 (some .long), Cond.methodLink RX0 37 Lib.MathLoose.abs_long.x, Cond.static Lib.MathLoose.abs_long.x, Cond.initialized "java/lang/Math", Cond.code Lib.MathLoose.abs_long.x Lib.MathLoose.abs_long.code 2 (some .long), Cond.methodLink RX0 43 yX0_commonDivisor, Cond.static yX0_commonDivisor, Cond.code yX0_commonDivisor cX0_commonDivisor 7 (some .long)]
def wsX3_centre : List Cond := .code yX3_centre cX3_centre 3 (some .long) :: ((wsX3_centre_r1 ++ (wsX3_centre_r2 ++ (wsX3_centre_r3 ++ (wsX3_centre_r4 ++ (wsX3_centre_r5 ++ wsX3_centre_r6))))) ++ wsX30 ++ wsX10 ++ wsX20 ++ wsX00 ++ (vx_atS RX3 41 "java/lang/IllegalArgumentException" ["java/lang/RuntimeException", "java/lang/Exception"]).filter goodWord ++ (q_atN RX3 137).filter goodWord)
def wsX3_hull_r1 : List Cond := [Cond.fieldLink RX3 21 "CircleCells" "mosaic" "LCircleCells$Mosaic;", Cond.fieldLink RX3 115 "CircleCells$Mosaic" "rimCount" "I", Cond.fieldLink RX3 118 "CircleCells$Mosaic" "rim" "[I", Cond.methodLink RX3 81 yX3_refresh, Cond.instanceMethod yX3_refresh, Cond.selects RX3 yX3_refresh yX3_refresh, Cond.initialized RX3, Cond.code yX3_refresh cX3_refresh 1 none, Cond.fieldLink RX3 25 "CircleCells" "stale" "Z", Cond.methodLink RX3 143 yX1_build, Cond.instanceMethod yX1_build, Cond.selects RX1 yX1_build yX1_build, Cond.initialized RX1, Cond.code yX1_build cX1_build 3 none, Cond.fieldLink RX1 28 "CircleCells$Mosaic" "cellCount" "I", Cond.fieldLink RX1 25 "CircleCells$Mosaic" "owner" "[I", Cond.fieldLink RX1 38 "CircleCells$Mosaic" "sites" "LCircleCells$Sites;", Cond.fieldLink RX1 48 "CircleCells$Sites" "size" "I", Cond.methodLink RX1 42 yJ7_fill_53178, Cond.static yJ7_fill_53178, Cond.initialized RJ7, Cond.code yJ7_fill_53178 cJ7_fill_53178 4 none, Cond.methodLink RX1 53 yX1_layLeftOf, Cond.instanceMethod yX1_layLeftOf]
def wsX3_hull_r2 : List Cond := [Cond.selects RX1 yX1_layLeftOf yX1_layLeftOf, Cond.code yX1_layLeftOf cX1_layLeftOf 5 (some .boolean), Cond.fieldLink RX1 12 "CircleCells$Mosaic" "circle" "LCircleCells$Circle;", Cond.methodLink RX1 67 yX2_turn_, Cond.instanceMethod yX2_turn_, Cond.selects RX2 yX2_turn_ yX2_turn_, Cond.initialized RX2, Cond.code yX2_turn_ cX2_turn_ 4 (some .int), Cond.fieldLink RX2 9 "CircleCells$Sites" "x" "[I", Cond.fieldLink RX2 15 "CircleCells$Sites" "y" "[I", Cond.methodLink RX2 30 yX2_turn, Cond.instanceMethod yX2_turn, Cond.selects RX2 yX2_turn yX2_turn, Cond.code yX2_turn cX2_turn 5 (some .int), Cond.methodLink RX1 71 yX1_powerOf, Cond.instanceMethod yX1_powerOf, Cond.selects RX1 yX1_powerOf yX1_powerOf, Cond.code yX1_powerOf cX1_powerOf 2 (some .long), Cond.fieldLink RX1 79 "CircleCells$Sites" "x" "[I", Cond.fieldLink RX1 82 "CircleCells$Sites" "y" "[I", Cond.methodLink RX1 85 yX0_power, Cond.instanceMethod yX0_power, Cond.selects RX0 yX0_power yX0_power, Cond.initialized RX0]
def wsX3_hull_r3 : List Cond := [Cond.code yX0_power cX0_power 7 (some .long), Cond.fieldLink RX0 13 "CircleCells$Circle" "fromX" "I", Cond.fieldLink RX0 22 "CircleCells$Circle" "fromY" "I", Cond.fieldLink RX0 34 "CircleCells$Circle" "span" "J", Cond.constantLong RX0 32 (2), Cond.fieldLink RX0 25 "CircleCells$Circle" "aimX" "J", Cond.fieldLink RX0 29 "CircleCells$Circle" "aimY" "J", Cond.methodLink RX1 75 yX0_layThrough, Cond.instanceMethod yX0_layThrough, Cond.selects RX0 yX0_layThrough yX0_layThrough, Cond.code yX0_layThrough cX0_layThrough 17 none, Cond.fieldLink RX0 7 "CircleCells$Sites" "x" "[I", Cond.fieldLink RX0 19 "CircleCells$Sites" "y" "[I", Cond.methodLink RX1 57 yX1_beginsCell, Cond.instanceMethod yX1_beginsCell, Cond.selects RX1 yX1_beginsCell yX1_beginsCell, Cond.code yX1_beginsCell cX1_beginsCell 7 (some .boolean), Cond.methodLink RX1 60 yX1_addCell, Cond.instanceMethod yX1_addCell, Cond.selects RX1 yX1_addCell yX1_addCell, Cond.code yX1_addCell cX1_addCell 5 none, Cond.fieldLink RX1 22 "CircleCells$Mosaic" "start" "[I", Cond.methodLink RX1 89 yX1_insertRound, Cond.instanceMethod yX1_insertRound]
def wsX3_hull_r4 : List Cond := [Cond.selects RX1 yX1_insertRound yX1_insertRound, Cond.code yX1_insertRound cX1_insertRound 5 none, Cond.fieldLink RX1 18 "CircleCells$Mosaic" "ring" "[I", Cond.methodLink RX1 93 yX1_claimSides, Cond.instanceMethod yX1_claimSides, Cond.selects RX1 yX1_claimSides yX1_claimSides, Cond.code yX1_claimSides cX1_claimSides 4 none, Cond.methodLink RX1 96 yX1_sideCount, Cond.instanceMethod yX1_sideCount, Cond.selects RX1 yX1_sideCount yX1_sideCount, Cond.code yX1_sideCount cX1_sideCount 2 (some .int), Cond.methodLink RX1 100 yX1_siteOf, Cond.instanceMethod yX1_siteOf, Cond.selects RX1 yX1_siteOf yX1_siteOf, Cond.code yX1_siteOf cX1_siteOf 3 (some .int), Cond.methodLink RX1 104 yX1_siteAfter, Cond.instanceMethod yX1_siteAfter, Cond.selects RX1 yX1_siteAfter yX1_siteAfter, Cond.code yX1_siteAfter cX1_siteAfter 3 (some .int), Cond.methodLink RX1 107 yX1_sideKey, Cond.static yX1_sideKey, Cond.code yX1_sideKey cX1_sideKey 2 (some .int), Cond.methodLink RX1 64 yX1_walkRim, Cond.instanceMethod yX1_walkRim]
def wsX3_hull_r5 : List Cond := [Cond.selects RX1 yX1_walkRim yX1_walkRim, Cond.code yX1_walkRim cX1_walkRim 4 none, Cond.fieldLink RX1 35 "CircleCells$Mosaic" "rimCount" "I", Cond.fieldLink RX1 32 "CircleCells$Mosaic" "rim" "[I", Cond.methodLink RX1 110 yX1_firstOnRim, Cond.instanceMethod yX1_firstOnRim, Cond.selects RX1 yX1_firstOnRim yX1_firstOnRim, Cond.code yX1_firstOnRim cX1_firstOnRim 2 (some .int), Cond.methodLink RX1 114 yX1_nextOnRim, Cond.instanceMethod yX1_nextOnRim, Cond.selects RX1 yX1_nextOnRim yX1_nextOnRim, Cond.code yX1_nextOnRim cX1_nextOnRim 3 (some .int), Cond.methodLink RX3 94 yX3_requireIndex, Cond.static yX3_requireIndex, Cond.code yX3_requireIndex cX3_requireIndex 2 none, Cond.classLink RX3 138 "java/lang/IndexOutOfBoundsException", Cond.initialized "java/lang/IndexOutOfBoundsException"]
def wsX3_hull : List Cond := .code yX3_hull cX3_hull 2 (some .int) :: ((wsX3_hull_r1 ++ (wsX3_hull_r2 ++ (wsX3_hull_r3 ++ (wsX3_hull_r4 ++ wsX3_hull_r5)))) ++ wsX30 ++ wsX10 ++ wsX20 ++ wsX00 ++ (vx_atS RX3 142 "java/lang/IndexOutOfBoundsException" ["java/lang/RuntimeException", "java/lang/Exception"]).filter goodWord)
def wsX3_around_r1 : List Cond := [Cond.fieldLink RX3 21 "CircleCells" "mosaic" "LCircleCells$Mosaic;", Cond.methodLink RX3 29 yX3_requirePlace, Cond.static yX3_requirePlace, Cond.initialized RX3, Cond.code yX3_requirePlace cX3_requirePlace 2 none, Cond.classLink RX3 37 "java/lang/IllegalArgumentException", Cond.initialized "java/lang/IllegalArgumentException", Cond.methodLink RX3 81 yX3_refresh, Cond.instanceMethod yX3_refresh, Cond.selects RX3 yX3_refresh yX3_refresh, Cond.code yX3_refresh cX3_refresh 1 none, Cond.fieldLink RX3 25 "CircleCells" "stale" "Z", Cond.methodLink RX3 143 yX1_build, Cond.instanceMethod yX1_build, Cond.selects RX1 yX1_build yX1_build, Cond.initialized RX1, Cond.code yX1_build cX1_build 3 none, Cond.fieldLink RX1 28 "CircleCells$Mosaic" "cellCount" "I", Cond.fieldLink RX1 25 "CircleCells$Mosaic" "owner" "[I", Cond.fieldLink RX1 38 "CircleCells$Mosaic" "sites" "LCircleCells$Sites;", Cond.fieldLink RX1 48 "CircleCells$Sites" "size" "I", Cond.methodLink RX1 42 yJ7_fill_53178, Cond.static yJ7_fill_53178, Cond.initialized RJ7]
def wsX3_around_r2 : List Cond := [Cond.code yJ7_fill_53178 cJ7_fill_53178 4 none, Cond.methodLink RX1 53 yX1_layLeftOf, Cond.instanceMethod yX1_layLeftOf, Cond.selects RX1 yX1_layLeftOf yX1_layLeftOf, Cond.code yX1_layLeftOf cX1_layLeftOf 5 (some .boolean), Cond.fieldLink RX1 12 "CircleCells$Mosaic" "circle" "LCircleCells$Circle;", Cond.methodLink RX1 67 yX2_turn_, Cond.instanceMethod yX2_turn_, Cond.selects RX2 yX2_turn_ yX2_turn_, Cond.initialized RX2, Cond.code yX2_turn_ cX2_turn_ 4 (some .int), Cond.fieldLink RX2 9 "CircleCells$Sites" "x" "[I", Cond.fieldLink RX2 15 "CircleCells$Sites" "y" "[I", Cond.methodLink RX2 30 yX2_turn, Cond.instanceMethod yX2_turn, Cond.selects RX2 yX2_turn yX2_turn, Cond.code yX2_turn cX2_turn 5 (some .int), Cond.methodLink RX1 71 yX1_powerOf, Cond.instanceMethod yX1_powerOf, Cond.selects RX1 yX1_powerOf yX1_powerOf, Cond.code yX1_powerOf cX1_powerOf 2 (some .long), Cond.fieldLink RX1 79 "CircleCells$Sites" "x" "[I", Cond.fieldLink RX1 82 "CircleCells$Sites" "y" "[I", Cond.methodLink RX1 85 yX0_power]
def wsX3_around_r3 : List Cond := [Cond.instanceMethod yX0_power, Cond.selects RX0 yX0_power yX0_power, Cond.initialized RX0, Cond.code yX0_power cX0_power 7 (some .long), Cond.fieldLink RX0 13 "CircleCells$Circle" "fromX" "I", Cond.fieldLink RX0 22 "CircleCells$Circle" "fromY" "I", Cond.fieldLink RX0 34 "CircleCells$Circle" "span" "J", Cond.constantLong RX0 32 (2), Cond.fieldLink RX0 25 "CircleCells$Circle" "aimX" "J", Cond.fieldLink RX0 29 "CircleCells$Circle" "aimY" "J", Cond.methodLink RX1 75 yX0_layThrough, Cond.instanceMethod yX0_layThrough, Cond.selects RX0 yX0_layThrough yX0_layThrough, Cond.code yX0_layThrough cX0_layThrough 17 none, Cond.fieldLink RX0 7 "CircleCells$Sites" "x" "[I", Cond.fieldLink RX0 19 "CircleCells$Sites" "y" "[I", Cond.methodLink RX1 57 yX1_beginsCell, Cond.instanceMethod yX1_beginsCell, Cond.selects RX1 yX1_beginsCell yX1_beginsCell, Cond.code yX1_beginsCell cX1_beginsCell 7 (some .boolean), Cond.methodLink RX1 60 yX1_addCell, Cond.instanceMethod yX1_addCell, Cond.selects RX1 yX1_addCell yX1_addCell, Cond.code yX1_addCell cX1_addCell 5 none]
def wsX3_around_r4 : List Cond := [Cond.fieldLink RX1 22 "CircleCells$Mosaic" "start" "[I", Cond.methodLink RX1 89 yX1_insertRound, Cond.instanceMethod yX1_insertRound, Cond.selects RX1 yX1_insertRound yX1_insertRound, Cond.code yX1_insertRound cX1_insertRound 5 none, Cond.fieldLink RX1 18 "CircleCells$Mosaic" "ring" "[I", Cond.methodLink RX1 93 yX1_claimSides, Cond.instanceMethod yX1_claimSides, Cond.selects RX1 yX1_claimSides yX1_claimSides, Cond.code yX1_claimSides cX1_claimSides 4 none, Cond.methodLink RX1 96 yX1_sideCount, Cond.instanceMethod yX1_sideCount, Cond.selects RX1 yX1_sideCount yX1_sideCount, Cond.code yX1_sideCount cX1_sideCount 2 (some .int), Cond.methodLink RX1 100 yX1_siteOf, Cond.instanceMethod yX1_siteOf, Cond.selects RX1 yX1_siteOf yX1_siteOf, Cond.code yX1_siteOf cX1_siteOf 3 (some .int), Cond.methodLink RX1 104 yX1_siteAfter, Cond.instanceMethod yX1_siteAfter, Cond.selects RX1 yX1_siteAfter yX1_siteAfter, Cond.code yX1_siteAfter cX1_siteAfter 3 (some .int), Cond.methodLink RX1 107 yX1_sideKey, Cond.static yX1_sideKey]
def wsX3_around_r5 : List Cond := [Cond.code yX1_sideKey cX1_sideKey 2 (some .int), Cond.methodLink RX1 64 yX1_walkRim, Cond.instanceMethod yX1_walkRim, Cond.selects RX1 yX1_walkRim yX1_walkRim, Cond.code yX1_walkRim cX1_walkRim 4 none, Cond.fieldLink RX1 35 "CircleCells$Mosaic" "rimCount" "I", Cond.fieldLink RX1 32 "CircleCells$Mosaic" "rim" "[I", Cond.methodLink RX1 110 yX1_firstOnRim, Cond.instanceMethod yX1_firstOnRim, Cond.selects RX1 yX1_firstOnRim yX1_firstOnRim, Cond.code yX1_firstOnRim cX1_firstOnRim 2 (some .int), Cond.methodLink RX1 114 yX1_nextOnRim, Cond.instanceMethod yX1_nextOnRim, Cond.selects RX1 yX1_nextOnRim yX1_nextOnRim, Cond.code yX1_nextOnRim cX1_nextOnRim 3 (some .int), Cond.methodLink RX3 121 yX1_firstWith, Cond.instanceMethod yX1_firstWith, Cond.selects RX1 yX1_firstWith yX1_firstWith, Cond.code yX1_firstWith cX1_firstWith 4 (some .int), Cond.methodLink RX1 117 yX1_holds, Cond.instanceMethod yX1_holds, Cond.selects RX1 yX1_holds yX1_holds, Cond.code yX1_holds cX1_holds 6 (some .boolean), Cond.methodLink RX1 121 yX2_turn]
def wsX3_around : List Cond := .code yX3_around cX3_around 3 (some .int) :: ((wsX3_around_r1 ++ (wsX3_around_r2 ++ (wsX3_around_r3 ++ (wsX3_around_r4 ++ wsX3_around_r5)))) ++ wsX30 ++ wsX10 ++ wsX20 ++ wsX00 ++ (vx_atS RX3 41 "java/lang/IllegalArgumentException" ["java/lang/RuntimeException", "java/lang/Exception"]).filter goodWord)
def wsX3_nearest : List Cond := .code yX3_nearest cX3_nearest 3 (some .int) :: ([.classLink RX3 48 "java/lang/IllegalStateException", .initialized "java/lang/IllegalStateException", .fieldLink RX3 12 "CircleCells" "sites" "LCircleCells$Sites;", .fieldLink RX3 44 "CircleCells$Sites" "size" "I", .methodLink RX3 29 yX3_requirePlace, .static yX3_requirePlace, .initialized RX3, .code yX3_requirePlace cX3_requirePlace 2 none, .classLink RX3 37 "java/lang/IllegalArgumentException", .initialized "java/lang/IllegalArgumentException", .methodLink RX3 126 yX2_closestTo, .instanceMethod yX2_closestTo, .selects RX2 yX2_closestTo yX2_closestTo, .initialized RX2, .code yX2_closestTo cX2_closestTo 5 (some .int), .fieldLink RX2 18 "CircleCells$Sites" "size" "I", .methodLink RX2 26 yX2_squareTo, .instanceMethod yX2_squareTo, .selects RX2 yX2_squareTo yX2_squareTo, .code yX2_squareTo cX2_squareTo 6 (some .int), .fieldLink RX2 9 "CircleCells$Sites" "x" "[I", .fieldLink RX2 15 "CircleCells$Sites" "y" "[I"] ++ wsX30 ++ wsX20 ++ (vx_atS RX3 52 "java/lang/IllegalStateException" ["java/lang/RuntimeException", "java/lang/Exception"]).filter goodWord ++ (vx_atS RX3 41 "java/lang/IllegalArgumentException" ["java/lang/RuntimeException", "java/lang/Exception"]).filter goodWord)
def wsX4_init : List Cond := .code yX4_init cX4_init 1 none :: ([.methodLink RX4 1 objectInit, .instanceMethod objectInit, .code objectInit ⟨#[0xb1]⟩ 1 none, .arrayClass .int, .fieldLink RX4 7 "CircleCellsModel" "x" "[I", .fieldLink RX4 13 "CircleCellsModel" "y" "[I", .fieldLink RX4 16 "CircleCellsModel" "size" "[I", .fieldLink RX4 19 "CircleCellsModel" "round" "[I", .fieldLink RX4 22 "CircleCellsModel" "order" "[I", .fieldLink RX4 25 "CircleCellsModel" "hull" "[I"] ++ wsX40)
def wsX4_thrown : List Cond := .code yX4_thrown cX4_thrown 1 (some .int) :: ([.fieldLink RX4 28 "CircleCellsModel" "thrown" "I"] ++ wsX40)
def wsX4_throwing : List Cond := .code yX4_throwing cX4_throwing 3 (some .boolean) :: ([.fieldLink RX4 28 "CircleCellsModel" "thrown" "I"] ++ wsX40)
def wsX4_out : List Cond := .code yX4_out cX4_out 2 (some .boolean) :: ([])
def wsX4_isFar : List Cond := .code yX4_isFar cX4_isFar 2 (some .boolean) :: ([])
def wsX4_isTaken : List Cond := .code yX4_isTaken cX4_isTaken 6 (some .boolean) :: ([.fieldLink RX4 32 "CircleCellsModel" "sites" "I", .fieldLink RX4 7 "CircleCellsModel" "x" "[I", .fieldLink RX4 13 "CircleCellsModel" "y" "[I"] ++ wsX40)
def wsX4_site : List Cond := .code yX4_site cX4_site 4 (some .int) :: ([.fieldLink RX4 32 "CircleCellsModel" "sites" "I", .fieldLink RX4 7 "CircleCellsModel" "x" "[I", .fieldLink RX4 13 "CircleCellsModel" "y" "[I", .fieldLink RX4 47 "CircleCellsModel" "made" "Z", .methodLink RX4 35 yX4_isFar, .static yX4_isFar, .initialized RX4, .code yX4_isFar cX4_isFar 2 (some .boolean), .methodLink RX4 39 yX4_isTaken, .instanceMethod yX4_isTaken, .selects RX4 yX4_isTaken yX4_isTaken, .code yX4_isTaken cX4_isTaken 6 (some .boolean), .methodLink RX4 43 yX4_throwing, .instanceMethod yX4_throwing, .selects RX4 yX4_throwing yX4_throwing, .code yX4_throwing cX4_throwing 3 (some .boolean), .fieldLink RX4 28 "CircleCellsModel" "thrown" "I"] ++ wsX40)
def wsX4_remove : List Cond := .code yX4_remove cX4_remove 3 none :: ([.fieldLink RX4 32 "CircleCellsModel" "sites" "I", .fieldLink RX4 7 "CircleCellsModel" "x" "[I", .fieldLink RX4 13 "CircleCellsModel" "y" "[I", .fieldLink RX4 47 "CircleCellsModel" "made" "Z", .methodLink RX4 51 yX4_out, .static yX4_out, .initialized RX4, .code yX4_out cX4_out 2 (some .boolean), .methodLink RX4 43 yX4_throwing, .instanceMethod yX4_throwing, .selects RX4 yX4_throwing yX4_throwing, .code yX4_throwing cX4_throwing 3 (some .boolean), .fieldLink RX4 28 "CircleCellsModel" "thrown" "I"] ++ wsX40)
def wsX4_move : List Cond := .code yX4_move cX4_move 4 none :: ([.fieldLink RX4 32 "CircleCellsModel" "sites" "I", .fieldLink RX4 7 "CircleCellsModel" "x" "[I", .fieldLink RX4 13 "CircleCellsModel" "y" "[I", .fieldLink RX4 47 "CircleCellsModel" "made" "Z", .methodLink RX4 51 yX4_out, .static yX4_out, .initialized RX4, .code yX4_out cX4_out 2 (some .boolean), .methodLink RX4 35 yX4_isFar, .static yX4_isFar, .code yX4_isFar cX4_isFar 2 (some .boolean), .methodLink RX4 39 yX4_isTaken, .instanceMethod yX4_isTaken, .selects RX4 yX4_isTaken yX4_isTaken, .code yX4_isTaken cX4_isTaken 6 (some .boolean), .methodLink RX4 43 yX4_throwing, .instanceMethod yX4_throwing, .selects RX4 yX4_throwing yX4_throwing, .code yX4_throwing cX4_throwing 3 (some .boolean), .fieldLink RX4 28 "CircleCellsModel" "thrown" "I"] ++ wsX40)
def wsX4_clear : List Cond := .code yX4_clear cX4_clear 1 none :: ([.fieldLink RX4 28 "CircleCellsModel" "thrown" "I", .fieldLink RX4 32 "CircleCellsModel" "sites" "I", .fieldLink RX4 47 "CircleCellsModel" "made" "Z"] ++ wsX40)
def wsX4_where : List Cond := .code yX4_where cX4_where 3 (some .int) :: ([.fieldLink RX4 32 "CircleCellsModel" "sites" "I", .fieldLink RX4 7 "CircleCellsModel" "x" "[I", .fieldLink RX4 13 "CircleCellsModel" "y" "[I", .methodLink RX4 51 yX4_out, .static yX4_out, .initialized RX4, .code yX4_out cX4_out 2 (some .boolean), .methodLink RX4 43 yX4_throwing, .instanceMethod yX4_throwing, .selects RX4 yX4_throwing yX4_throwing, .code yX4_throwing cX4_throwing 3 (some .boolean), .fieldLink RX4 28 "CircleCellsModel" "thrown" "I"] ++ wsX40)
def wsX4_turn : List Cond := .code yX4_turn cX4_turn 5 (some .long) :: ([.fieldLink RX4 7 "CircleCellsModel" "x" "[I", .fieldLink RX4 13 "CircleCellsModel" "y" "[I"] ++ wsX40)
def wsX4_square : List Cond := .code yX4_square cX4_square 3 (some .long) :: ([.fieldLink RX4 7 "CircleCellsModel" "x" "[I", .fieldLink RX4 13 "CircleCellsModel" "y" "[I"] ++ wsX40)
def wsX4_power : List Cond := .code yX4_power cX4_power 21 (some .long) :: ([.fieldLink RX4 7 "CircleCellsModel" "x" "[I", .fieldLink RX4 13 "CircleCellsModel" "y" "[I", .methodLink RX4 54 yX4_square, .instanceMethod yX4_square, .selects RX4 yX4_square yX4_square, .initialized RX4, .code yX4_square cX4_square 3 (some .long)] ++ wsX40)
def wsX4_onCircle : List Cond := .code yX4_onCircle cX4_onCircle 8 (some .int) :: ([.fieldLink RX4 32 "CircleCellsModel" "sites" "I", .methodLink RX4 58 yX4_power, .instanceMethod yX4_power, .selects RX4 yX4_power yX4_power, .initialized RX4, .code yX4_power cX4_power 21 (some .long), .fieldLink RX4 7 "CircleCellsModel" "x" "[I", .fieldLink RX4 13 "CircleCellsModel" "y" "[I", .methodLink RX4 54 yX4_square, .instanceMethod yX4_square, .selects RX4 yX4_square yX4_square, .code yX4_square cX4_square 3 (some .long)] ++ wsX40)
def wsX4_behind : List Cond := .code yX4_behind cX4_behind 6 (some .int) :: ([.fieldLink RX4 32 "CircleCellsModel" "sites" "I", .fieldLink RX4 7 "CircleCellsModel" "x" "[I", .fieldLink RX4 13 "CircleCellsModel" "y" "[I", .methodLink RX4 62 yX4_turn, .instanceMethod yX4_turn, .selects RX4 yX4_turn yX4_turn, .initialized RX4, .code yX4_turn cX4_turn 5 (some .long)] ++ wsX40)
def wsX4_add : List Cond := .code yX4_add cX4_add 5 none :: ([.fieldLink RX4 19 "CircleCellsModel" "round" "[I", .fieldLink RX4 65 "CircleCellsModel" "cells" "I", .fieldLink RX4 16 "CircleCellsModel" "size" "[I", .methodLink RX4 68 yX4_behind, .instanceMethod yX4_behind, .selects RX4 yX4_behind yX4_behind, .initialized RX4, .code yX4_behind cX4_behind 6 (some .int), .fieldLink RX4 32 "CircleCellsModel" "sites" "I", .fieldLink RX4 7 "CircleCellsModel" "x" "[I", .fieldLink RX4 13 "CircleCellsModel" "y" "[I", .methodLink RX4 62 yX4_turn, .instanceMethod yX4_turn, .selects RX4 yX4_turn yX4_turn, .code yX4_turn cX4_turn 5 (some .long)] ++ wsX40)
def wsX4_isBefore : List Cond := .code yX4_isBefore cX4_isBefore 4 (some .boolean) :: ([.fieldLink RX4 16 "CircleCellsModel" "size" "[I", .fieldLink RX4 19 "CircleCellsModel" "round" "[I"] ++ wsX40)
def wsX4_after : List Cond := .code yX4_after cX4_after 3 (some .int) :: ([.fieldLink RX4 19 "CircleCellsModel" "round" "[I", .fieldLink RX4 16 "CircleCellsModel" "size" "[I"] ++ wsX40)
def wsX4_withSide : List Cond := .code yX4_withSide cX4_withSide 6 (some .int) :: ([.fieldLink RX4 65 "CircleCellsModel" "cells" "I", .fieldLink RX4 22 "CircleCellsModel" "order" "[I", .fieldLink RX4 16 "CircleCellsModel" "size" "[I", .fieldLink RX4 19 "CircleCellsModel" "round" "[I", .methodLink RX4 89 yX4_after, .instanceMethod yX4_after, .selects RX4 yX4_after yX4_after, .initialized RX4, .code yX4_after cX4_after 3 (some .int)] ++ wsX40)
def wsX4_onHull : List Cond := .code yX4_onHull cX4_onHull 4 (some .int) :: ([.fieldLink RX4 65 "CircleCellsModel" "cells" "I", .fieldLink RX4 16 "CircleCellsModel" "size" "[I", .fieldLink RX4 19 "CircleCellsModel" "round" "[I", .methodLink RX4 89 yX4_after, .instanceMethod yX4_after, .selects RX4 yX4_after yX4_after, .initialized RX4, .code yX4_after cX4_after 3 (some .int), .methodLink RX4 92 yX4_withSide, .instanceMethod yX4_withSide, .selects RX4 yX4_withSide yX4_withSide, .code yX4_withSide cX4_withSide 6 (some .int), .fieldLink RX4 22 "CircleCellsModel" "order" "[I"] ++ wsX40)
def wsX4_surround : List Cond := .code yX4_surround cX4_surround 3 none :: ([.fieldLink RX4 32 "CircleCellsModel" "sites" "I", .fieldLink RX4 65 "CircleCellsModel" "cells" "I", .fieldLink RX4 72 "CircleCellsModel" "hullSize" "I", .fieldLink RX4 25 "CircleCellsModel" "hull" "[I", .methodLink RX4 95 yX4_onHull, .instanceMethod yX4_onHull, .selects RX4 yX4_onHull yX4_onHull, .initialized RX4, .code yX4_onHull cX4_onHull 4 (some .int), .fieldLink RX4 16 "CircleCellsModel" "size" "[I", .fieldLink RX4 19 "CircleCellsModel" "round" "[I", .methodLink RX4 89 yX4_after, .instanceMethod yX4_after, .selects RX4 yX4_after yX4_after, .code yX4_after cX4_after 3 (some .int), .methodLink RX4 92 yX4_withSide, .instanceMethod yX4_withSide, .selects RX4 yX4_withSide yX4_withSide, .code yX4_withSide cX4_withSide 6 (some .int), .fieldLink RX4 22 "CircleCellsModel" "order" "[I"] ++ wsX40)
def wsX4_make_r1 : List Cond := [Cond.fieldLink RX4 47 "CircleCellsModel" "made" "Z", Cond.fieldLink RX4 65 "CircleCellsModel" "cells" "I", Cond.fieldLink RX4 72 "CircleCellsModel" "hullSize" "I", Cond.fieldLink RX4 32 "CircleCellsModel" "sites" "I", Cond.fieldLink RX4 7 "CircleCellsModel" "x" "[I", Cond.fieldLink RX4 13 "CircleCellsModel" "y" "[I", Cond.fieldLink RX4 22 "CircleCellsModel" "order" "[I", Cond.methodLink RX4 62 yX4_turn, Cond.instanceMethod yX4_turn, Cond.selects RX4 yX4_turn yX4_turn, Cond.initialized RX4, Cond.code yX4_turn cX4_turn 5 (some .long), Cond.methodLink RX4 75 yX4_onCircle, Cond.instanceMethod yX4_onCircle, Cond.selects RX4 yX4_onCircle yX4_onCircle, Cond.code yX4_onCircle cX4_onCircle 8 (some .int), Cond.methodLink RX4 58 yX4_power, Cond.instanceMethod yX4_power, Cond.selects RX4 yX4_power yX4_power, Cond.code yX4_power cX4_power 21 (some .long), Cond.methodLink RX4 54 yX4_square, Cond.instanceMethod yX4_square, Cond.selects RX4 yX4_square yX4_square, Cond.code yX4_square cX4_square 3 (some .long)]
def wsX4_make_r2 : List Cond := [Cond.methodLink RX4 79 yX4_add, Cond.instanceMethod yX4_add, Cond.selects RX4 yX4_add yX4_add, Cond.code yX4_add cX4_add 5 none, Cond.fieldLink RX4 19 "CircleCellsModel" "round" "[I", Cond.fieldLink RX4 16 "CircleCellsModel" "size" "[I", Cond.methodLink RX4 68 yX4_behind, Cond.instanceMethod yX4_behind, Cond.selects RX4 yX4_behind yX4_behind, Cond.code yX4_behind cX4_behind 6 (some .int), Cond.methodLink RX4 83 yX4_isBefore, Cond.instanceMethod yX4_isBefore, Cond.selects RX4 yX4_isBefore yX4_isBefore, Cond.code yX4_isBefore cX4_isBefore 4 (some .boolean), Cond.methodLink RX4 86 yX4_surround, Cond.instanceMethod yX4_surround, Cond.selects RX4 yX4_surround yX4_surround, Cond.code yX4_surround cX4_surround 3 none, Cond.fieldLink RX4 25 "CircleCellsModel" "hull" "[I", Cond.methodLink RX4 95 yX4_onHull, Cond.instanceMethod yX4_onHull, Cond.selects RX4 yX4_onHull yX4_onHull, Cond.code yX4_onHull cX4_onHull 4 (some .int), Cond.methodLink RX4 89 yX4_after]
def wsX4_make_r3 : List Cond := [Cond.instanceMethod yX4_after, Cond.selects RX4 yX4_after yX4_after, Cond.code yX4_after cX4_after 3 (some .int), Cond.methodLink RX4 92 yX4_withSide, Cond.instanceMethod yX4_withSide, Cond.selects RX4 yX4_withSide yX4_withSide, Cond.code yX4_withSide cX4_withSide 6 (some .int)]
def wsX4_make : List Cond := .code yX4_make cX4_make 6 none :: ((wsX4_make_r1 ++ (wsX4_make_r2 ++ wsX4_make_r3)) ++ wsX40)
def wsX4_cells_r1 : List Cond := [Cond.fieldLink RX4 28 "CircleCellsModel" "thrown" "I", Cond.fieldLink RX4 65 "CircleCellsModel" "cells" "I", Cond.methodLink RX4 99 yX4_make, Cond.instanceMethod yX4_make, Cond.selects RX4 yX4_make yX4_make, Cond.initialized RX4, Cond.code yX4_make cX4_make 6 none, Cond.fieldLink RX4 47 "CircleCellsModel" "made" "Z", Cond.fieldLink RX4 72 "CircleCellsModel" "hullSize" "I", Cond.fieldLink RX4 32 "CircleCellsModel" "sites" "I", Cond.fieldLink RX4 7 "CircleCellsModel" "x" "[I", Cond.fieldLink RX4 13 "CircleCellsModel" "y" "[I", Cond.fieldLink RX4 22 "CircleCellsModel" "order" "[I", Cond.methodLink RX4 62 yX4_turn, Cond.instanceMethod yX4_turn, Cond.selects RX4 yX4_turn yX4_turn, Cond.code yX4_turn cX4_turn 5 (some .long), Cond.methodLink RX4 75 yX4_onCircle, Cond.instanceMethod yX4_onCircle, Cond.selects RX4 yX4_onCircle yX4_onCircle, Cond.code yX4_onCircle cX4_onCircle 8 (some .int), Cond.methodLink RX4 58 yX4_power, Cond.instanceMethod yX4_power, Cond.selects RX4 yX4_power yX4_power]
def wsX4_cells_r2 : List Cond := [Cond.code yX4_power cX4_power 21 (some .long), Cond.methodLink RX4 54 yX4_square, Cond.instanceMethod yX4_square, Cond.selects RX4 yX4_square yX4_square, Cond.code yX4_square cX4_square 3 (some .long), Cond.methodLink RX4 79 yX4_add, Cond.instanceMethod yX4_add, Cond.selects RX4 yX4_add yX4_add, Cond.code yX4_add cX4_add 5 none, Cond.fieldLink RX4 19 "CircleCellsModel" "round" "[I", Cond.fieldLink RX4 16 "CircleCellsModel" "size" "[I", Cond.methodLink RX4 68 yX4_behind, Cond.instanceMethod yX4_behind, Cond.selects RX4 yX4_behind yX4_behind, Cond.code yX4_behind cX4_behind 6 (some .int), Cond.methodLink RX4 83 yX4_isBefore, Cond.instanceMethod yX4_isBefore, Cond.selects RX4 yX4_isBefore yX4_isBefore, Cond.code yX4_isBefore cX4_isBefore 4 (some .boolean), Cond.methodLink RX4 86 yX4_surround, Cond.instanceMethod yX4_surround, Cond.selects RX4 yX4_surround yX4_surround, Cond.code yX4_surround cX4_surround 3 none, Cond.fieldLink RX4 25 "CircleCellsModel" "hull" "[I"]
def wsX4_cells_r3 : List Cond := [Cond.methodLink RX4 95 yX4_onHull, Cond.instanceMethod yX4_onHull, Cond.selects RX4 yX4_onHull yX4_onHull, Cond.code yX4_onHull cX4_onHull 4 (some .int), Cond.methodLink RX4 89 yX4_after, Cond.instanceMethod yX4_after, Cond.selects RX4 yX4_after yX4_after, Cond.code yX4_after cX4_after 3 (some .int), Cond.methodLink RX4 92 yX4_withSide, Cond.instanceMethod yX4_withSide, Cond.selects RX4 yX4_withSide yX4_withSide, Cond.code yX4_withSide cX4_withSide 6 (some .int)]
def wsX4_cells : List Cond := .code yX4_cells cX4_cells 1 (some .int) :: ((wsX4_cells_r1 ++ (wsX4_cells_r2 ++ wsX4_cells_r3)) ++ wsX40)
def wsX4_cell_r1 : List Cond := [Cond.fieldLink RX4 65 "CircleCellsModel" "cells" "I", Cond.fieldLink RX4 22 "CircleCellsModel" "order" "[I", Cond.fieldLink RX4 16 "CircleCellsModel" "size" "[I", Cond.fieldLink RX4 19 "CircleCellsModel" "round" "[I", Cond.methodLink RX4 99 yX4_make, Cond.instanceMethod yX4_make, Cond.selects RX4 yX4_make yX4_make, Cond.initialized RX4, Cond.code yX4_make cX4_make 6 none, Cond.fieldLink RX4 47 "CircleCellsModel" "made" "Z", Cond.fieldLink RX4 72 "CircleCellsModel" "hullSize" "I", Cond.fieldLink RX4 32 "CircleCellsModel" "sites" "I", Cond.fieldLink RX4 7 "CircleCellsModel" "x" "[I", Cond.fieldLink RX4 13 "CircleCellsModel" "y" "[I", Cond.methodLink RX4 62 yX4_turn, Cond.instanceMethod yX4_turn, Cond.selects RX4 yX4_turn yX4_turn, Cond.code yX4_turn cX4_turn 5 (some .long), Cond.methodLink RX4 75 yX4_onCircle, Cond.instanceMethod yX4_onCircle, Cond.selects RX4 yX4_onCircle yX4_onCircle, Cond.code yX4_onCircle cX4_onCircle 8 (some .int), Cond.methodLink RX4 58 yX4_power, Cond.instanceMethod yX4_power]
def wsX4_cell_r2 : List Cond := [Cond.selects RX4 yX4_power yX4_power, Cond.code yX4_power cX4_power 21 (some .long), Cond.methodLink RX4 54 yX4_square, Cond.instanceMethod yX4_square, Cond.selects RX4 yX4_square yX4_square, Cond.code yX4_square cX4_square 3 (some .long), Cond.methodLink RX4 79 yX4_add, Cond.instanceMethod yX4_add, Cond.selects RX4 yX4_add yX4_add, Cond.code yX4_add cX4_add 5 none, Cond.methodLink RX4 68 yX4_behind, Cond.instanceMethod yX4_behind, Cond.selects RX4 yX4_behind yX4_behind, Cond.code yX4_behind cX4_behind 6 (some .int), Cond.methodLink RX4 83 yX4_isBefore, Cond.instanceMethod yX4_isBefore, Cond.selects RX4 yX4_isBefore yX4_isBefore, Cond.code yX4_isBefore cX4_isBefore 4 (some .boolean), Cond.methodLink RX4 86 yX4_surround, Cond.instanceMethod yX4_surround, Cond.selects RX4 yX4_surround yX4_surround, Cond.code yX4_surround cX4_surround 3 none, Cond.fieldLink RX4 25 "CircleCellsModel" "hull" "[I", Cond.methodLink RX4 95 yX4_onHull]
def wsX4_cell_r3 : List Cond := [Cond.instanceMethod yX4_onHull, Cond.selects RX4 yX4_onHull yX4_onHull, Cond.code yX4_onHull cX4_onHull 4 (some .int), Cond.methodLink RX4 89 yX4_after, Cond.instanceMethod yX4_after, Cond.selects RX4 yX4_after yX4_after, Cond.code yX4_after cX4_after 3 (some .int), Cond.methodLink RX4 92 yX4_withSide, Cond.instanceMethod yX4_withSide, Cond.selects RX4 yX4_withSide yX4_withSide, Cond.code yX4_withSide cX4_withSide 6 (some .int), Cond.methodLink RX4 51 yX4_out, Cond.static yX4_out, Cond.code yX4_out cX4_out 2 (some .boolean), Cond.methodLink RX4 43 yX4_throwing, Cond.instanceMethod yX4_throwing, Cond.selects RX4 yX4_throwing yX4_throwing, Cond.code yX4_throwing cX4_throwing 3 (some .boolean), Cond.fieldLink RX4 28 "CircleCellsModel" "thrown" "I"]
def wsX4_cell : List Cond := .code yX4_cell cX4_cell 5 (some .int) :: ((wsX4_cell_r1 ++ (wsX4_cell_r2 ++ wsX4_cell_r3)) ++ wsX40)
def wsX4_beside_r1 : List Cond := [Cond.fieldLink RX4 65 "CircleCellsModel" "cells" "I", Cond.fieldLink RX4 22 "CircleCellsModel" "order" "[I", Cond.fieldLink RX4 16 "CircleCellsModel" "size" "[I", Cond.fieldLink RX4 19 "CircleCellsModel" "round" "[I", Cond.methodLink RX4 99 yX4_make, Cond.instanceMethod yX4_make, Cond.selects RX4 yX4_make yX4_make, Cond.initialized RX4, Cond.code yX4_make cX4_make 6 none, Cond.fieldLink RX4 47 "CircleCellsModel" "made" "Z", Cond.fieldLink RX4 72 "CircleCellsModel" "hullSize" "I", Cond.fieldLink RX4 32 "CircleCellsModel" "sites" "I", Cond.fieldLink RX4 7 "CircleCellsModel" "x" "[I", Cond.fieldLink RX4 13 "CircleCellsModel" "y" "[I", Cond.methodLink RX4 62 yX4_turn, Cond.instanceMethod yX4_turn, Cond.selects RX4 yX4_turn yX4_turn, Cond.code yX4_turn cX4_turn 5 (some .long), Cond.methodLink RX4 75 yX4_onCircle, Cond.instanceMethod yX4_onCircle, Cond.selects RX4 yX4_onCircle yX4_onCircle, Cond.code yX4_onCircle cX4_onCircle 8 (some .int), Cond.methodLink RX4 58 yX4_power, Cond.instanceMethod yX4_power]
def wsX4_beside_r2 : List Cond := [Cond.selects RX4 yX4_power yX4_power, Cond.code yX4_power cX4_power 21 (some .long), Cond.methodLink RX4 54 yX4_square, Cond.instanceMethod yX4_square, Cond.selects RX4 yX4_square yX4_square, Cond.code yX4_square cX4_square 3 (some .long), Cond.methodLink RX4 79 yX4_add, Cond.instanceMethod yX4_add, Cond.selects RX4 yX4_add yX4_add, Cond.code yX4_add cX4_add 5 none, Cond.methodLink RX4 68 yX4_behind, Cond.instanceMethod yX4_behind, Cond.selects RX4 yX4_behind yX4_behind, Cond.code yX4_behind cX4_behind 6 (some .int), Cond.methodLink RX4 83 yX4_isBefore, Cond.instanceMethod yX4_isBefore, Cond.selects RX4 yX4_isBefore yX4_isBefore, Cond.code yX4_isBefore cX4_isBefore 4 (some .boolean), Cond.methodLink RX4 86 yX4_surround, Cond.instanceMethod yX4_surround, Cond.selects RX4 yX4_surround yX4_surround, Cond.code yX4_surround cX4_surround 3 none, Cond.fieldLink RX4 25 "CircleCellsModel" "hull" "[I", Cond.methodLink RX4 95 yX4_onHull]
def wsX4_beside_r3 : List Cond := [Cond.instanceMethod yX4_onHull, Cond.selects RX4 yX4_onHull yX4_onHull, Cond.code yX4_onHull cX4_onHull 4 (some .int), Cond.methodLink RX4 89 yX4_after, Cond.instanceMethod yX4_after, Cond.selects RX4 yX4_after yX4_after, Cond.code yX4_after cX4_after 3 (some .int), Cond.methodLink RX4 92 yX4_withSide, Cond.instanceMethod yX4_withSide, Cond.selects RX4 yX4_withSide yX4_withSide, Cond.code yX4_withSide cX4_withSide 6 (some .int), Cond.methodLink RX4 51 yX4_out, Cond.static yX4_out, Cond.code yX4_out cX4_out 2 (some .boolean), Cond.methodLink RX4 43 yX4_throwing, Cond.instanceMethod yX4_throwing, Cond.selects RX4 yX4_throwing yX4_throwing, Cond.code yX4_throwing cX4_throwing 3 (some .boolean), Cond.fieldLink RX4 28 "CircleCellsModel" "thrown" "I"]
def wsX4_beside : List Cond := .code yX4_beside cX4_beside 5 (some .int) :: ((wsX4_beside_r1 ++ (wsX4_beside_r2 ++ wsX4_beside_r3)) ++ wsX40)
def wsX4_divisor : List Cond := .code yX4_divisor cX4_divisor 8 (some .long) :: ([])
def wsX4_centre_r1 : List Cond := [Cond.fieldLink RX4 65 "CircleCellsModel" "cells" "I", Cond.fieldLink RX4 28 "CircleCellsModel" "thrown" "I", Cond.fieldLink RX4 22 "CircleCellsModel" "order" "[I", Cond.fieldLink RX4 19 "CircleCellsModel" "round" "[I", Cond.fieldLink RX4 7 "CircleCellsModel" "x" "[I", Cond.fieldLink RX4 13 "CircleCellsModel" "y" "[I", Cond.constantLong RX4 102 (2), Cond.methodLink RX4 99 yX4_make, Cond.instanceMethod yX4_make, Cond.selects RX4 yX4_make yX4_make, Cond.initialized RX4, Cond.code yX4_make cX4_make 6 none, Cond.fieldLink RX4 47 "CircleCellsModel" "made" "Z", Cond.fieldLink RX4 72 "CircleCellsModel" "hullSize" "I", Cond.fieldLink RX4 32 "CircleCellsModel" "sites" "I", Cond.methodLink RX4 62 yX4_turn, Cond.instanceMethod yX4_turn, Cond.selects RX4 yX4_turn yX4_turn, Cond.code yX4_turn cX4_turn 5 (some .long), Cond.methodLink RX4 75 yX4_onCircle, Cond.instanceMethod yX4_onCircle, Cond.selects RX4 yX4_onCircle yX4_onCircle, Cond.code yX4_onCircle cX4_onCircle 8 (some .int), Cond.methodLink RX4 58 yX4_power]
def wsX4_centre_r2 : List Cond := [Cond.instanceMethod yX4_power, Cond.selects RX4 yX4_power yX4_power, Cond.code yX4_power cX4_power 21 (some .long), Cond.methodLink RX4 54 yX4_square, Cond.instanceMethod yX4_square, Cond.selects RX4 yX4_square yX4_square, Cond.code yX4_square cX4_square 3 (some .long), Cond.methodLink RX4 79 yX4_add, Cond.instanceMethod yX4_add, Cond.selects RX4 yX4_add yX4_add, Cond.code yX4_add cX4_add 5 none, Cond.fieldLink RX4 16 "CircleCellsModel" "size" "[I", Cond.methodLink RX4 68 yX4_behind, Cond.instanceMethod yX4_behind, Cond.selects RX4 yX4_behind yX4_behind, Cond.code yX4_behind cX4_behind 6 (some .int), Cond.methodLink RX4 83 yX4_isBefore, Cond.instanceMethod yX4_isBefore, Cond.selects RX4 yX4_isBefore yX4_isBefore, Cond.code yX4_isBefore cX4_isBefore 4 (some .boolean), Cond.methodLink RX4 86 yX4_surround, Cond.instanceMethod yX4_surround, Cond.selects RX4 yX4_surround yX4_surround, Cond.code yX4_surround cX4_surround 3 none]
def wsX4_centre_r3 : List Cond := [Cond.fieldLink RX4 25 "CircleCellsModel" "hull" "[I", Cond.methodLink RX4 95 yX4_onHull, Cond.instanceMethod yX4_onHull, Cond.selects RX4 yX4_onHull yX4_onHull, Cond.code yX4_onHull cX4_onHull 4 (some .int), Cond.methodLink RX4 89 yX4_after, Cond.instanceMethod yX4_after, Cond.selects RX4 yX4_after yX4_after, Cond.code yX4_after cX4_after 3 (some .int), Cond.methodLink RX4 92 yX4_withSide, Cond.instanceMethod yX4_withSide, Cond.selects RX4 yX4_withSide yX4_withSide, Cond.code yX4_withSide cX4_withSide 6 (some .int), Cond.methodLink RX4 51 yX4_out, Cond.static yX4_out, Cond.code yX4_out cX4_out 2 (some .boolean), Cond.methodLink RX4 104 yX4_divisor, Cond.static yX4_divisor, Cond.code yX4_divisor cX4_divisor 8 (some .long)]
def wsX4_centre : List Cond := .code yX4_centre cX4_centre 22 (some .long) :: ((wsX4_centre_r1 ++ (wsX4_centre_r2 ++ wsX4_centre_r3)) ++ wsX40)
def wsX4_hull_r1 : List Cond := [Cond.fieldLink RX4 72 "CircleCellsModel" "hullSize" "I", Cond.fieldLink RX4 25 "CircleCellsModel" "hull" "[I", Cond.methodLink RX4 99 yX4_make, Cond.instanceMethod yX4_make, Cond.selects RX4 yX4_make yX4_make, Cond.initialized RX4, Cond.code yX4_make cX4_make 6 none, Cond.fieldLink RX4 47 "CircleCellsModel" "made" "Z", Cond.fieldLink RX4 65 "CircleCellsModel" "cells" "I", Cond.fieldLink RX4 32 "CircleCellsModel" "sites" "I", Cond.fieldLink RX4 7 "CircleCellsModel" "x" "[I", Cond.fieldLink RX4 13 "CircleCellsModel" "y" "[I", Cond.fieldLink RX4 22 "CircleCellsModel" "order" "[I", Cond.methodLink RX4 62 yX4_turn, Cond.instanceMethod yX4_turn, Cond.selects RX4 yX4_turn yX4_turn, Cond.code yX4_turn cX4_turn 5 (some .long), Cond.methodLink RX4 75 yX4_onCircle, Cond.instanceMethod yX4_onCircle, Cond.selects RX4 yX4_onCircle yX4_onCircle, Cond.code yX4_onCircle cX4_onCircle 8 (some .int), Cond.methodLink RX4 58 yX4_power, Cond.instanceMethod yX4_power, Cond.selects RX4 yX4_power yX4_power]
def wsX4_hull_r2 : List Cond := [Cond.code yX4_power cX4_power 21 (some .long), Cond.methodLink RX4 54 yX4_square, Cond.instanceMethod yX4_square, Cond.selects RX4 yX4_square yX4_square, Cond.code yX4_square cX4_square 3 (some .long), Cond.methodLink RX4 79 yX4_add, Cond.instanceMethod yX4_add, Cond.selects RX4 yX4_add yX4_add, Cond.code yX4_add cX4_add 5 none, Cond.fieldLink RX4 19 "CircleCellsModel" "round" "[I", Cond.fieldLink RX4 16 "CircleCellsModel" "size" "[I", Cond.methodLink RX4 68 yX4_behind, Cond.instanceMethod yX4_behind, Cond.selects RX4 yX4_behind yX4_behind, Cond.code yX4_behind cX4_behind 6 (some .int), Cond.methodLink RX4 83 yX4_isBefore, Cond.instanceMethod yX4_isBefore, Cond.selects RX4 yX4_isBefore yX4_isBefore, Cond.code yX4_isBefore cX4_isBefore 4 (some .boolean), Cond.methodLink RX4 86 yX4_surround, Cond.instanceMethod yX4_surround, Cond.selects RX4 yX4_surround yX4_surround, Cond.code yX4_surround cX4_surround 3 none, Cond.methodLink RX4 95 yX4_onHull]
def wsX4_hull_r3 : List Cond := [Cond.instanceMethod yX4_onHull, Cond.selects RX4 yX4_onHull yX4_onHull, Cond.code yX4_onHull cX4_onHull 4 (some .int), Cond.methodLink RX4 89 yX4_after, Cond.instanceMethod yX4_after, Cond.selects RX4 yX4_after yX4_after, Cond.code yX4_after cX4_after 3 (some .int), Cond.methodLink RX4 92 yX4_withSide, Cond.instanceMethod yX4_withSide, Cond.selects RX4 yX4_withSide yX4_withSide, Cond.code yX4_withSide cX4_withSide 6 (some .int), Cond.methodLink RX4 43 yX4_throwing, Cond.instanceMethod yX4_throwing, Cond.selects RX4 yX4_throwing yX4_throwing, Cond.code yX4_throwing cX4_throwing 3 (some .boolean), Cond.fieldLink RX4 28 "CircleCellsModel" "thrown" "I"]
def wsX4_hull : List Cond := .code yX4_hull cX4_hull 2 (some .int) :: ((wsX4_hull_r1 ++ (wsX4_hull_r2 ++ wsX4_hull_r3)) ++ wsX40)
def wsX4_around_r1 : List Cond := [Cond.fieldLink RX4 65 "CircleCellsModel" "cells" "I", Cond.fieldLink RX4 22 "CircleCellsModel" "order" "[I", Cond.fieldLink RX4 16 "CircleCellsModel" "size" "[I", Cond.fieldLink RX4 19 "CircleCellsModel" "round" "[I", Cond.methodLink RX4 35 yX4_isFar, Cond.static yX4_isFar, Cond.initialized RX4, Cond.code yX4_isFar cX4_isFar 2 (some .boolean), Cond.methodLink RX4 43 yX4_throwing, Cond.instanceMethod yX4_throwing, Cond.selects RX4 yX4_throwing yX4_throwing, Cond.code yX4_throwing cX4_throwing 3 (some .boolean), Cond.fieldLink RX4 28 "CircleCellsModel" "thrown" "I", Cond.methodLink RX4 99 yX4_make, Cond.instanceMethod yX4_make, Cond.selects RX4 yX4_make yX4_make, Cond.code yX4_make cX4_make 6 none, Cond.fieldLink RX4 47 "CircleCellsModel" "made" "Z", Cond.fieldLink RX4 72 "CircleCellsModel" "hullSize" "I", Cond.fieldLink RX4 32 "CircleCellsModel" "sites" "I", Cond.fieldLink RX4 7 "CircleCellsModel" "x" "[I", Cond.fieldLink RX4 13 "CircleCellsModel" "y" "[I", Cond.methodLink RX4 62 yX4_turn, Cond.instanceMethod yX4_turn]
def wsX4_around_r2 : List Cond := [Cond.selects RX4 yX4_turn yX4_turn, Cond.code yX4_turn cX4_turn 5 (some .long), Cond.methodLink RX4 75 yX4_onCircle, Cond.instanceMethod yX4_onCircle, Cond.selects RX4 yX4_onCircle yX4_onCircle, Cond.code yX4_onCircle cX4_onCircle 8 (some .int), Cond.methodLink RX4 58 yX4_power, Cond.instanceMethod yX4_power, Cond.selects RX4 yX4_power yX4_power, Cond.code yX4_power cX4_power 21 (some .long), Cond.methodLink RX4 54 yX4_square, Cond.instanceMethod yX4_square, Cond.selects RX4 yX4_square yX4_square, Cond.code yX4_square cX4_square 3 (some .long), Cond.methodLink RX4 79 yX4_add, Cond.instanceMethod yX4_add, Cond.selects RX4 yX4_add yX4_add, Cond.code yX4_add cX4_add 5 none, Cond.methodLink RX4 68 yX4_behind, Cond.instanceMethod yX4_behind, Cond.selects RX4 yX4_behind yX4_behind, Cond.code yX4_behind cX4_behind 6 (some .int), Cond.methodLink RX4 83 yX4_isBefore, Cond.instanceMethod yX4_isBefore]
def wsX4_around_r3 : List Cond := [Cond.selects RX4 yX4_isBefore yX4_isBefore, Cond.code yX4_isBefore cX4_isBefore 4 (some .boolean), Cond.methodLink RX4 86 yX4_surround, Cond.instanceMethod yX4_surround, Cond.selects RX4 yX4_surround yX4_surround, Cond.code yX4_surround cX4_surround 3 none, Cond.fieldLink RX4 25 "CircleCellsModel" "hull" "[I", Cond.methodLink RX4 95 yX4_onHull, Cond.instanceMethod yX4_onHull, Cond.selects RX4 yX4_onHull yX4_onHull, Cond.code yX4_onHull cX4_onHull 4 (some .int), Cond.methodLink RX4 89 yX4_after, Cond.instanceMethod yX4_after, Cond.selects RX4 yX4_after yX4_after, Cond.code yX4_after cX4_after 3 (some .int), Cond.methodLink RX4 92 yX4_withSide, Cond.instanceMethod yX4_withSide, Cond.selects RX4 yX4_withSide yX4_withSide, Cond.code yX4_withSide cX4_withSide 6 (some .int)]
def wsX4_around : List Cond := .code yX4_around cX4_around 7 (some .int) :: ((wsX4_around_r1 ++ (wsX4_around_r2 ++ wsX4_around_r3)) ++ wsX40)
def wsX4_nearest : List Cond := .code yX4_nearest cX4_nearest 10 (some .int) :: ([.fieldLink RX4 32 "CircleCellsModel" "sites" "I", .fieldLink RX4 7 "CircleCellsModel" "x" "[I", .fieldLink RX4 13 "CircleCellsModel" "y" "[I", .methodLink RX4 35 yX4_isFar, .static yX4_isFar, .initialized RX4, .code yX4_isFar cX4_isFar 2 (some .boolean), .methodLink RX4 43 yX4_throwing, .instanceMethod yX4_throwing, .selects RX4 yX4_throwing yX4_throwing, .code yX4_throwing cX4_throwing 3 (some .boolean), .fieldLink RX4 28 "CircleCellsModel" "thrown" "I"] ++ wsX40)
def wsJ9_abs_067f4 : List Cond := .code yJ9_abs_067f4 cJ9_abs_067f4 2 (some .long) :: ([])
def wsL_site_r1 : List Cond := [Cond.classLink RL 13 "java/lang/IllegalArgumentException", Cond.classLink RL 15 "java/lang/IllegalStateException", Cond.methodLink RL 7 yX3_site, Cond.instanceMethod yX3_site, Cond.selects RX3 yX3_site yX3_site, Cond.initialized RX3, Cond.code yX3_site cX3_site 3 (some .int), Cond.classLink RX3 37 "java/lang/IllegalArgumentException", Cond.initialized "java/lang/IllegalArgumentException", Cond.classLink RX3 48 "java/lang/IllegalStateException", Cond.initialized "java/lang/IllegalStateException", Cond.fieldLink RX3 12 "CircleCells" "sites" "LCircleCells$Sites;", Cond.fieldLink RX3 44 "CircleCells$Sites" "size" "I", Cond.fieldLink RX3 25 "CircleCells" "stale" "Z", Cond.methodLink RX3 29 yX3_requirePlace, Cond.static yX3_requirePlace, Cond.code yX3_requirePlace cX3_requirePlace 2 none, Cond.methodLink RX3 33 yX2_numberAt, Cond.instanceMethod yX2_numberAt, Cond.selects RX2 yX2_numberAt yX2_numberAt, Cond.initialized RX2, Cond.code yX2_numberAt cX2_numberAt 4 (some .int), Cond.fieldLink RX2 18 "CircleCells$Sites" "size" "I", Cond.fieldLink RX2 9 "CircleCells$Sites" "x" "[I"]
def wsL_site_r2 : List Cond := [Cond.fieldLink RX2 15 "CircleCells$Sites" "y" "[I", Cond.methodLink RX3 53 yX2_append, Cond.instanceMethod yX2_append, Cond.selects RX2 yX2_append yX2_append, Cond.code yX2_append cX2_append 4 (some .int), Cond.methodLink RX2 22 yX2_put, Cond.instanceMethod yX2_put, Cond.selects RX2 yX2_put yX2_put, Cond.code yX2_put cX2_put 4 none]
def wsL_site : List Cond := .codeWith yL_site cL_site 5 (some .int) [(0, 10, 13, 13), (0, 10, 17, 15)] :: ((wsL_site_r1 ++ wsL_site_r2) ++ wsX30 ++ wsX20 ++ (vx_atS RX3 41 "java/lang/IllegalArgumentException" ["java/lang/RuntimeException", "java/lang/Exception"]).filter goodWord ++ (vx_atS RX3 52 "java/lang/IllegalStateException" ["java/lang/RuntimeException", "java/lang/Exception"]).filter goodWord)
def wsL_remove_r1 : List Cond := [Cond.classLink RL 13 "java/lang/IllegalArgumentException", Cond.methodLink RL 17 yX3_remove, Cond.instanceMethod yX3_remove, Cond.selects RX3 yX3_remove yX3_remove, Cond.initialized RX3, Cond.code yX3_remove cX3_remove 2 none, Cond.fieldLink RX3 25 "CircleCells" "stale" "Z", Cond.fieldLink RX3 12 "CircleCells" "sites" "LCircleCells$Sites;", Cond.methodLink RX3 56 yX3_requireSite, Cond.instanceMethod yX3_requireSite, Cond.selects RX3 yX3_requireSite yX3_requireSite, Cond.code yX3_requireSite cX3_requireSite 2 none, Cond.classLink RX3 37 "java/lang/IllegalArgumentException", Cond.initialized "java/lang/IllegalArgumentException", Cond.fieldLink RX3 44 "CircleCells$Sites" "size" "I", Cond.methodLink RX3 60 yX2_drop, Cond.instanceMethod yX2_drop, Cond.selects RX2 yX2_drop yX2_drop, Cond.initialized RX2, Cond.code yX2_drop cX2_drop 3 none, Cond.fieldLink RX2 18 "CircleCells$Sites" "size" "I", Cond.fieldLink RX2 9 "CircleCells$Sites" "x" "[I", Cond.fieldLink RX2 15 "CircleCells$Sites" "y" "[I", Cond.methodLink RX2 22 yX2_put]
def wsL_remove_r2 : List Cond := [Cond.instanceMethod yX2_put, Cond.selects RX2 yX2_put yX2_put, Cond.code yX2_put cX2_put 4 none]
def wsL_remove : List Cond := .codeWith yL_remove cL_remove 3 (some .int) [(0, 5, 8, 13)] :: ((wsL_remove_r1 ++ wsL_remove_r2) ++ wsX30 ++ wsX20 ++ (vx_atS RX3 41 "java/lang/IllegalArgumentException" ["java/lang/RuntimeException", "java/lang/Exception"]).filter goodWord)
def wsL_move_r1 : List Cond := [Cond.classLink RL 13 "java/lang/IllegalArgumentException", Cond.methodLink RL 21 yX3_move, Cond.instanceMethod yX3_move, Cond.selects RX3 yX3_move yX3_move, Cond.initialized RX3, Cond.code yX3_move cX3_move 5 none, Cond.classLink RX3 37 "java/lang/IllegalArgumentException", Cond.initialized "java/lang/IllegalArgumentException", Cond.fieldLink RX3 12 "CircleCells" "sites" "LCircleCells$Sites;", Cond.fieldLink RX3 25 "CircleCells" "stale" "Z", Cond.methodLink RX3 56 yX3_requireSite, Cond.instanceMethod yX3_requireSite, Cond.selects RX3 yX3_requireSite yX3_requireSite, Cond.code yX3_requireSite cX3_requireSite 2 none, Cond.fieldLink RX3 44 "CircleCells$Sites" "size" "I", Cond.methodLink RX3 29 yX3_requirePlace, Cond.static yX3_requirePlace, Cond.code yX3_requirePlace cX3_requirePlace 2 none, Cond.methodLink RX3 33 yX2_numberAt, Cond.instanceMethod yX2_numberAt, Cond.selects RX2 yX2_numberAt yX2_numberAt, Cond.initialized RX2, Cond.code yX2_numberAt cX2_numberAt 4 (some .int), Cond.fieldLink RX2 18 "CircleCells$Sites" "size" "I"]
def wsL_move_r2 : List Cond := [Cond.fieldLink RX2 9 "CircleCells$Sites" "x" "[I", Cond.fieldLink RX2 15 "CircleCells$Sites" "y" "[I", Cond.methodLink RX3 65 yX2_put, Cond.instanceMethod yX2_put, Cond.selects RX2 yX2_put yX2_put, Cond.code yX2_put cX2_put 4 none]
def wsL_move : List Cond := .codeWith yL_move cL_move 5 (some .int) [(0, 7, 10, 13)] :: ((wsL_move_r1 ++ wsL_move_r2) ++ wsX30 ++ wsX20 ++ (vx_atS RX3 41 "java/lang/IllegalArgumentException" ["java/lang/RuntimeException", "java/lang/Exception"]).filter goodWord)
def wsL_where : List Cond := .codeWith yL_where cL_where 5 (some .int) [(0, 10, 13, 13)] :: ([.classLink RL 13 "java/lang/IllegalArgumentException", .methodLink RL 25 yX3_where, .instanceMethod yX3_where, .selects RX3 yX3_where yX3_where, .initialized RX3, .code yX3_where cX3_where 3 (some .int), .classLink RX3 37 "java/lang/IllegalArgumentException", .initialized "java/lang/IllegalArgumentException", .fieldLink RX3 12 "CircleCells" "sites" "LCircleCells$Sites;", .fieldLink RX3 74 "CircleCells$Sites" "x" "[I", .fieldLink RX3 78 "CircleCells$Sites" "y" "[I", .methodLink RX3 56 yX3_requireSite, .instanceMethod yX3_requireSite, .selects RX3 yX3_requireSite yX3_requireSite, .code yX3_requireSite cX3_requireSite 2 none, .fieldLink RX3 44 "CircleCells$Sites" "size" "I"] ++ wsX30 ++ wsX20 ++ (vx_atS RX3 41 "java/lang/IllegalArgumentException" ["java/lang/RuntimeException", "java/lang/Exception"]).filter goodWord)
def wsL_cell_r1 : List Cond := [Cond.classLink RL 31 "java/util/NoSuchElementException", Cond.classLink RL 33 "java/lang/IndexOutOfBoundsException", Cond.methodLink RL 28 yX3_cell, Cond.instanceMethod yX3_cell, Cond.selects RX3 yX3_cell yX3_cell, Cond.initialized RX3, Cond.code yX3_cell cX3_cell 4 (some .int), Cond.fieldLink RX3 21 "CircleCells" "mosaic" "LCircleCells$Mosaic;", Cond.methodLink RX3 81 yX3_refresh, Cond.instanceMethod yX3_refresh, Cond.selects RX3 yX3_refresh yX3_refresh, Cond.code yX3_refresh cX3_refresh 1 none, Cond.fieldLink RX3 25 "CircleCells" "stale" "Z", Cond.methodLink RX3 143 yX1_build, Cond.instanceMethod yX1_build, Cond.selects RX1 yX1_build yX1_build, Cond.initialized RX1, Cond.code yX1_build cX1_build 3 none, Cond.fieldLink RX1 28 "CircleCells$Mosaic" "cellCount" "I", Cond.fieldLink RX1 25 "CircleCells$Mosaic" "owner" "[I", Cond.fieldLink RX1 38 "CircleCells$Mosaic" "sites" "LCircleCells$Sites;", Cond.fieldLink RX1 48 "CircleCells$Sites" "size" "I", Cond.methodLink RX1 42 yJ7_fill_53178, Cond.static yJ7_fill_53178]
def wsL_cell_r2 : List Cond := [Cond.initialized RJ7, Cond.code yJ7_fill_53178 cJ7_fill_53178 4 none, Cond.methodLink RX1 53 yX1_layLeftOf, Cond.instanceMethod yX1_layLeftOf, Cond.selects RX1 yX1_layLeftOf yX1_layLeftOf, Cond.code yX1_layLeftOf cX1_layLeftOf 5 (some .boolean), Cond.fieldLink RX1 12 "CircleCells$Mosaic" "circle" "LCircleCells$Circle;", Cond.methodLink RX1 67 yX2_turn_, Cond.instanceMethod yX2_turn_, Cond.selects RX2 yX2_turn_ yX2_turn_, Cond.initialized RX2, Cond.code yX2_turn_ cX2_turn_ 4 (some .int), Cond.fieldLink RX2 9 "CircleCells$Sites" "x" "[I", Cond.fieldLink RX2 15 "CircleCells$Sites" "y" "[I", Cond.methodLink RX2 30 yX2_turn, Cond.instanceMethod yX2_turn, Cond.selects RX2 yX2_turn yX2_turn, Cond.code yX2_turn cX2_turn 5 (some .int), Cond.methodLink RX1 71 yX1_powerOf, Cond.instanceMethod yX1_powerOf, Cond.selects RX1 yX1_powerOf yX1_powerOf, Cond.code yX1_powerOf cX1_powerOf 2 (some .long), Cond.fieldLink RX1 79 "CircleCells$Sites" "x" "[I", Cond.fieldLink RX1 82 "CircleCells$Sites" "y" "[I"]
def wsL_cell_r3 : List Cond := [Cond.methodLink RX1 85 yX0_power, Cond.instanceMethod yX0_power, Cond.selects RX0 yX0_power yX0_power, Cond.initialized RX0, Cond.code yX0_power cX0_power 7 (some .long), Cond.fieldLink RX0 13 "CircleCells$Circle" "fromX" "I", Cond.fieldLink RX0 22 "CircleCells$Circle" "fromY" "I", Cond.fieldLink RX0 34 "CircleCells$Circle" "span" "J", Cond.constantLong RX0 32 (2), Cond.fieldLink RX0 25 "CircleCells$Circle" "aimX" "J", Cond.fieldLink RX0 29 "CircleCells$Circle" "aimY" "J", Cond.methodLink RX1 75 yX0_layThrough, Cond.instanceMethod yX0_layThrough, Cond.selects RX0 yX0_layThrough yX0_layThrough, Cond.code yX0_layThrough cX0_layThrough 17 none, Cond.fieldLink RX0 7 "CircleCells$Sites" "x" "[I", Cond.fieldLink RX0 19 "CircleCells$Sites" "y" "[I", Cond.methodLink RX1 57 yX1_beginsCell, Cond.instanceMethod yX1_beginsCell, Cond.selects RX1 yX1_beginsCell yX1_beginsCell, Cond.code yX1_beginsCell cX1_beginsCell 7 (some .boolean), Cond.methodLink RX1 60 yX1_addCell, Cond.instanceMethod yX1_addCell, Cond.selects RX1 yX1_addCell yX1_addCell]
def wsL_cell_r4 : List Cond := [Cond.code yX1_addCell cX1_addCell 5 none, Cond.fieldLink RX1 22 "CircleCells$Mosaic" "start" "[I", Cond.methodLink RX1 89 yX1_insertRound, Cond.instanceMethod yX1_insertRound, Cond.selects RX1 yX1_insertRound yX1_insertRound, Cond.code yX1_insertRound cX1_insertRound 5 none, Cond.fieldLink RX1 18 "CircleCells$Mosaic" "ring" "[I", Cond.methodLink RX1 93 yX1_claimSides, Cond.instanceMethod yX1_claimSides, Cond.selects RX1 yX1_claimSides yX1_claimSides, Cond.code yX1_claimSides cX1_claimSides 4 none, Cond.methodLink RX1 96 yX1_sideCount, Cond.instanceMethod yX1_sideCount, Cond.selects RX1 yX1_sideCount yX1_sideCount, Cond.code yX1_sideCount cX1_sideCount 2 (some .int), Cond.methodLink RX1 100 yX1_siteOf, Cond.instanceMethod yX1_siteOf, Cond.selects RX1 yX1_siteOf yX1_siteOf, Cond.code yX1_siteOf cX1_siteOf 3 (some .int), Cond.methodLink RX1 104 yX1_siteAfter, Cond.instanceMethod yX1_siteAfter, Cond.selects RX1 yX1_siteAfter yX1_siteAfter, Cond.code yX1_siteAfter cX1_siteAfter 3 (some .int), Cond.methodLink RX1 107 yX1_sideKey]
def wsL_cell_r5 : List Cond := [Cond.static yX1_sideKey, Cond.code yX1_sideKey cX1_sideKey 2 (some .int), Cond.methodLink RX1 64 yX1_walkRim, Cond.instanceMethod yX1_walkRim, Cond.selects RX1 yX1_walkRim yX1_walkRim, Cond.code yX1_walkRim cX1_walkRim 4 none, Cond.fieldLink RX1 35 "CircleCells$Mosaic" "rimCount" "I", Cond.fieldLink RX1 32 "CircleCells$Mosaic" "rim" "[I", Cond.methodLink RX1 110 yX1_firstOnRim, Cond.instanceMethod yX1_firstOnRim, Cond.selects RX1 yX1_firstOnRim yX1_firstOnRim, Cond.code yX1_firstOnRim cX1_firstOnRim 2 (some .int), Cond.methodLink RX1 114 yX1_nextOnRim, Cond.instanceMethod yX1_nextOnRim, Cond.selects RX1 yX1_nextOnRim yX1_nextOnRim, Cond.code yX1_nextOnRim cX1_nextOnRim 3 (some .int), Cond.methodLink RX3 87 yX3_requireCell, Cond.instanceMethod yX3_requireCell, Cond.selects RX3 yX3_requireCell yX3_requireCell, Cond.code yX3_requireCell cX3_requireCell 2 none, Cond.classLink RX3 133 "java/util/NoSuchElementException", Cond.initialized "java/util/NoSuchElementException", Cond.fieldLink RX3 84 "CircleCells$Mosaic" "cellCount" "I", Cond.methodLink RX3 90 yX1_sideCount]
def wsL_cell_r6 : List Cond := [Cond.methodLink RX3 94 yX3_requireIndex, Cond.static yX3_requireIndex, Cond.code yX3_requireIndex cX3_requireIndex 2 none, Cond.classLink RX3 138 "java/lang/IndexOutOfBoundsException", Cond.initialized "java/lang/IndexOutOfBoundsException", Cond.methodLink RX3 97 yX1_siteOf]
def wsL_cell : List Cond := .codeWith yL_cell cL_cell 5 (some .int) [(0, 10, 13, 31), (0, 10, 17, 33)] :: ((wsL_cell_r1 ++ (wsL_cell_r2 ++ (wsL_cell_r3 ++ (wsL_cell_r4 ++ (wsL_cell_r5 ++ wsL_cell_r6))))) ++ wsX30 ++ wsX10 ++ wsX20 ++ wsX00 ++ (q_atN RX3 137).filter goodWord ++ (vx_atS RX3 142 "java/lang/IndexOutOfBoundsException" ["java/lang/RuntimeException", "java/lang/Exception"]).filter goodWord)
def wsL_beside_r1 : List Cond := [Cond.classLink RL 31 "java/util/NoSuchElementException", Cond.classLink RL 33 "java/lang/IndexOutOfBoundsException", Cond.methodLink RL 35 yX3_beside, Cond.instanceMethod yX3_beside, Cond.selects RX3 yX3_beside yX3_beside, Cond.initialized RX3, Cond.code yX3_beside cX3_beside 3 (some .int), Cond.fieldLink RX3 21 "CircleCells" "mosaic" "LCircleCells$Mosaic;", Cond.methodLink RX3 81 yX3_refresh, Cond.instanceMethod yX3_refresh, Cond.selects RX3 yX3_refresh yX3_refresh, Cond.code yX3_refresh cX3_refresh 1 none, Cond.fieldLink RX3 25 "CircleCells" "stale" "Z", Cond.methodLink RX3 143 yX1_build, Cond.instanceMethod yX1_build, Cond.selects RX1 yX1_build yX1_build, Cond.initialized RX1, Cond.code yX1_build cX1_build 3 none, Cond.fieldLink RX1 28 "CircleCells$Mosaic" "cellCount" "I", Cond.fieldLink RX1 25 "CircleCells$Mosaic" "owner" "[I", Cond.fieldLink RX1 38 "CircleCells$Mosaic" "sites" "LCircleCells$Sites;", Cond.fieldLink RX1 48 "CircleCells$Sites" "size" "I", Cond.methodLink RX1 42 yJ7_fill_53178, Cond.static yJ7_fill_53178]
def wsL_beside_r2 : List Cond := [Cond.initialized RJ7, Cond.code yJ7_fill_53178 cJ7_fill_53178 4 none, Cond.methodLink RX1 53 yX1_layLeftOf, Cond.instanceMethod yX1_layLeftOf, Cond.selects RX1 yX1_layLeftOf yX1_layLeftOf, Cond.code yX1_layLeftOf cX1_layLeftOf 5 (some .boolean), Cond.fieldLink RX1 12 "CircleCells$Mosaic" "circle" "LCircleCells$Circle;", Cond.methodLink RX1 67 yX2_turn_, Cond.instanceMethod yX2_turn_, Cond.selects RX2 yX2_turn_ yX2_turn_, Cond.initialized RX2, Cond.code yX2_turn_ cX2_turn_ 4 (some .int), Cond.fieldLink RX2 9 "CircleCells$Sites" "x" "[I", Cond.fieldLink RX2 15 "CircleCells$Sites" "y" "[I", Cond.methodLink RX2 30 yX2_turn, Cond.instanceMethod yX2_turn, Cond.selects RX2 yX2_turn yX2_turn, Cond.code yX2_turn cX2_turn 5 (some .int), Cond.methodLink RX1 71 yX1_powerOf, Cond.instanceMethod yX1_powerOf, Cond.selects RX1 yX1_powerOf yX1_powerOf, Cond.code yX1_powerOf cX1_powerOf 2 (some .long), Cond.fieldLink RX1 79 "CircleCells$Sites" "x" "[I", Cond.fieldLink RX1 82 "CircleCells$Sites" "y" "[I"]
def wsL_beside_r3 : List Cond := [Cond.methodLink RX1 85 yX0_power, Cond.instanceMethod yX0_power, Cond.selects RX0 yX0_power yX0_power, Cond.initialized RX0, Cond.code yX0_power cX0_power 7 (some .long), Cond.fieldLink RX0 13 "CircleCells$Circle" "fromX" "I", Cond.fieldLink RX0 22 "CircleCells$Circle" "fromY" "I", Cond.fieldLink RX0 34 "CircleCells$Circle" "span" "J", Cond.constantLong RX0 32 (2), Cond.fieldLink RX0 25 "CircleCells$Circle" "aimX" "J", Cond.fieldLink RX0 29 "CircleCells$Circle" "aimY" "J", Cond.methodLink RX1 75 yX0_layThrough, Cond.instanceMethod yX0_layThrough, Cond.selects RX0 yX0_layThrough yX0_layThrough, Cond.code yX0_layThrough cX0_layThrough 17 none, Cond.fieldLink RX0 7 "CircleCells$Sites" "x" "[I", Cond.fieldLink RX0 19 "CircleCells$Sites" "y" "[I", Cond.methodLink RX1 57 yX1_beginsCell, Cond.instanceMethod yX1_beginsCell, Cond.selects RX1 yX1_beginsCell yX1_beginsCell, Cond.code yX1_beginsCell cX1_beginsCell 7 (some .boolean), Cond.methodLink RX1 60 yX1_addCell, Cond.instanceMethod yX1_addCell, Cond.selects RX1 yX1_addCell yX1_addCell]
def wsL_beside_r4 : List Cond := [Cond.code yX1_addCell cX1_addCell 5 none, Cond.fieldLink RX1 22 "CircleCells$Mosaic" "start" "[I", Cond.methodLink RX1 89 yX1_insertRound, Cond.instanceMethod yX1_insertRound, Cond.selects RX1 yX1_insertRound yX1_insertRound, Cond.code yX1_insertRound cX1_insertRound 5 none, Cond.fieldLink RX1 18 "CircleCells$Mosaic" "ring" "[I", Cond.methodLink RX1 93 yX1_claimSides, Cond.instanceMethod yX1_claimSides, Cond.selects RX1 yX1_claimSides yX1_claimSides, Cond.code yX1_claimSides cX1_claimSides 4 none, Cond.methodLink RX1 96 yX1_sideCount, Cond.instanceMethod yX1_sideCount, Cond.selects RX1 yX1_sideCount yX1_sideCount, Cond.code yX1_sideCount cX1_sideCount 2 (some .int), Cond.methodLink RX1 100 yX1_siteOf, Cond.instanceMethod yX1_siteOf, Cond.selects RX1 yX1_siteOf yX1_siteOf, Cond.code yX1_siteOf cX1_siteOf 3 (some .int), Cond.methodLink RX1 104 yX1_siteAfter, Cond.instanceMethod yX1_siteAfter, Cond.selects RX1 yX1_siteAfter yX1_siteAfter, Cond.code yX1_siteAfter cX1_siteAfter 3 (some .int), Cond.methodLink RX1 107 yX1_sideKey]
def wsL_beside_r5 : List Cond := [Cond.static yX1_sideKey, Cond.code yX1_sideKey cX1_sideKey 2 (some .int), Cond.methodLink RX1 64 yX1_walkRim, Cond.instanceMethod yX1_walkRim, Cond.selects RX1 yX1_walkRim yX1_walkRim, Cond.code yX1_walkRim cX1_walkRim 4 none, Cond.fieldLink RX1 35 "CircleCells$Mosaic" "rimCount" "I", Cond.fieldLink RX1 32 "CircleCells$Mosaic" "rim" "[I", Cond.methodLink RX1 110 yX1_firstOnRim, Cond.instanceMethod yX1_firstOnRim, Cond.selects RX1 yX1_firstOnRim yX1_firstOnRim, Cond.code yX1_firstOnRim cX1_firstOnRim 2 (some .int), Cond.methodLink RX1 114 yX1_nextOnRim, Cond.instanceMethod yX1_nextOnRim, Cond.selects RX1 yX1_nextOnRim yX1_nextOnRim, Cond.code yX1_nextOnRim cX1_nextOnRim 3 (some .int), Cond.methodLink RX3 87 yX3_requireCell, Cond.instanceMethod yX3_requireCell, Cond.selects RX3 yX3_requireCell yX3_requireCell, Cond.code yX3_requireCell cX3_requireCell 2 none, Cond.classLink RX3 133 "java/util/NoSuchElementException", Cond.initialized "java/util/NoSuchElementException", Cond.fieldLink RX3 84 "CircleCells$Mosaic" "cellCount" "I", Cond.methodLink RX3 90 yX1_sideCount]
def wsL_beside_r6 : List Cond := [Cond.methodLink RX3 94 yX3_requireIndex, Cond.static yX3_requireIndex, Cond.code yX3_requireIndex cX3_requireIndex 2 none, Cond.classLink RX3 138 "java/lang/IndexOutOfBoundsException", Cond.initialized "java/lang/IndexOutOfBoundsException", Cond.methodLink RX3 100 yX1_across, Cond.instanceMethod yX1_across, Cond.selects RX1 yX1_across yX1_across, Cond.code yX1_across cX1_across 3 (some .int)]
def wsL_beside : List Cond := .codeWith yL_beside cL_beside 5 (some .int) [(0, 10, 13, 31), (0, 10, 17, 33)] :: ((wsL_beside_r1 ++ (wsL_beside_r2 ++ (wsL_beside_r3 ++ (wsL_beside_r4 ++ (wsL_beside_r5 ++ wsL_beside_r6))))) ++ wsX30 ++ wsX10 ++ wsX20 ++ wsX00 ++ (q_atN RX3 137).filter goodWord ++ (vx_atS RX3 142 "java/lang/IndexOutOfBoundsException" ["java/lang/RuntimeException", "java/lang/Exception"]).filter goodWord)
def wsL_centre_r1 : List Cond := [Cond.classLink RL 31 "java/util/NoSuchElementException", Cond.classLink RL 13 "java/lang/IllegalArgumentException", Cond.methodLink RL 38 yX3_centre, Cond.instanceMethod yX3_centre, Cond.selects RX3 yX3_centre yX3_centre, Cond.initialized RX3, Cond.code yX3_centre cX3_centre 3 (some .long), Cond.classLink RX3 37 "java/lang/IllegalArgumentException", Cond.initialized "java/lang/IllegalArgumentException", Cond.fieldLink RX3 21 "CircleCells" "mosaic" "LCircleCells$Mosaic;", Cond.methodLink RX3 81 yX3_refresh, Cond.instanceMethod yX3_refresh, Cond.selects RX3 yX3_refresh yX3_refresh, Cond.code yX3_refresh cX3_refresh 1 none, Cond.fieldLink RX3 25 "CircleCells" "stale" "Z", Cond.methodLink RX3 143 yX1_build, Cond.instanceMethod yX1_build, Cond.selects RX1 yX1_build yX1_build, Cond.initialized RX1, Cond.code yX1_build cX1_build 3 none, Cond.fieldLink RX1 28 "CircleCells$Mosaic" "cellCount" "I", Cond.fieldLink RX1 25 "CircleCells$Mosaic" "owner" "[I", Cond.fieldLink RX1 38 "CircleCells$Mosaic" "sites" "LCircleCells$Sites;", Cond.fieldLink RX1 48 "CircleCells$Sites" "size" "I"]
def wsL_centre_r2 : List Cond := [Cond.methodLink RX1 42 yJ7_fill_53178, Cond.static yJ7_fill_53178, Cond.initialized RJ7, Cond.code yJ7_fill_53178 cJ7_fill_53178 4 none, Cond.methodLink RX1 53 yX1_layLeftOf, Cond.instanceMethod yX1_layLeftOf, Cond.selects RX1 yX1_layLeftOf yX1_layLeftOf, Cond.code yX1_layLeftOf cX1_layLeftOf 5 (some .boolean), Cond.fieldLink RX1 12 "CircleCells$Mosaic" "circle" "LCircleCells$Circle;", Cond.methodLink RX1 67 yX2_turn_, Cond.instanceMethod yX2_turn_, Cond.selects RX2 yX2_turn_ yX2_turn_, Cond.initialized RX2, Cond.code yX2_turn_ cX2_turn_ 4 (some .int), Cond.fieldLink RX2 9 "CircleCells$Sites" "x" "[I", Cond.fieldLink RX2 15 "CircleCells$Sites" "y" "[I", Cond.methodLink RX2 30 yX2_turn, Cond.instanceMethod yX2_turn, Cond.selects RX2 yX2_turn yX2_turn, Cond.code yX2_turn cX2_turn 5 (some .int), Cond.methodLink RX1 71 yX1_powerOf, Cond.instanceMethod yX1_powerOf, Cond.selects RX1 yX1_powerOf yX1_powerOf, Cond.code yX1_powerOf cX1_powerOf 2 (some .long)]
def wsL_centre_r3 : List Cond := [Cond.fieldLink RX1 79 "CircleCells$Sites" "x" "[I", Cond.fieldLink RX1 82 "CircleCells$Sites" "y" "[I", Cond.methodLink RX1 85 yX0_power, Cond.instanceMethod yX0_power, Cond.selects RX0 yX0_power yX0_power, Cond.initialized RX0, Cond.code yX0_power cX0_power 7 (some .long), Cond.fieldLink RX0 13 "CircleCells$Circle" "fromX" "I", Cond.fieldLink RX0 22 "CircleCells$Circle" "fromY" "I", Cond.fieldLink RX0 34 "CircleCells$Circle" "span" "J", Cond.constantLong RX0 32 (2), Cond.fieldLink RX0 25 "CircleCells$Circle" "aimX" "J", Cond.fieldLink RX0 29 "CircleCells$Circle" "aimY" "J", Cond.methodLink RX1 75 yX0_layThrough, Cond.instanceMethod yX0_layThrough, Cond.selects RX0 yX0_layThrough yX0_layThrough, Cond.code yX0_layThrough cX0_layThrough 17 none, Cond.fieldLink RX0 7 "CircleCells$Sites" "x" "[I", Cond.fieldLink RX0 19 "CircleCells$Sites" "y" "[I", Cond.methodLink RX1 57 yX1_beginsCell, Cond.instanceMethod yX1_beginsCell, Cond.selects RX1 yX1_beginsCell yX1_beginsCell, Cond.code yX1_beginsCell cX1_beginsCell 7 (some .boolean), Cond.methodLink RX1 60 yX1_addCell]
def wsL_centre_r4 : List Cond := [Cond.instanceMethod yX1_addCell, Cond.selects RX1 yX1_addCell yX1_addCell, Cond.code yX1_addCell cX1_addCell 5 none, Cond.fieldLink RX1 22 "CircleCells$Mosaic" "start" "[I", Cond.methodLink RX1 89 yX1_insertRound, Cond.instanceMethod yX1_insertRound, Cond.selects RX1 yX1_insertRound yX1_insertRound, Cond.code yX1_insertRound cX1_insertRound 5 none, Cond.fieldLink RX1 18 "CircleCells$Mosaic" "ring" "[I", Cond.methodLink RX1 93 yX1_claimSides, Cond.instanceMethod yX1_claimSides, Cond.selects RX1 yX1_claimSides yX1_claimSides, Cond.code yX1_claimSides cX1_claimSides 4 none, Cond.methodLink RX1 96 yX1_sideCount, Cond.instanceMethod yX1_sideCount, Cond.selects RX1 yX1_sideCount yX1_sideCount, Cond.code yX1_sideCount cX1_sideCount 2 (some .int), Cond.methodLink RX1 100 yX1_siteOf, Cond.instanceMethod yX1_siteOf, Cond.selects RX1 yX1_siteOf yX1_siteOf, Cond.code yX1_siteOf cX1_siteOf 3 (some .int), Cond.methodLink RX1 104 yX1_siteAfter, Cond.instanceMethod yX1_siteAfter, Cond.selects RX1 yX1_siteAfter yX1_siteAfter]
def wsL_centre_r5 : List Cond := [Cond.code yX1_siteAfter cX1_siteAfter 3 (some .int), Cond.methodLink RX1 107 yX1_sideKey, Cond.static yX1_sideKey, Cond.code yX1_sideKey cX1_sideKey 2 (some .int), Cond.methodLink RX1 64 yX1_walkRim, Cond.instanceMethod yX1_walkRim, Cond.selects RX1 yX1_walkRim yX1_walkRim, Cond.code yX1_walkRim cX1_walkRim 4 none, Cond.fieldLink RX1 35 "CircleCells$Mosaic" "rimCount" "I", Cond.fieldLink RX1 32 "CircleCells$Mosaic" "rim" "[I", Cond.methodLink RX1 110 yX1_firstOnRim, Cond.instanceMethod yX1_firstOnRim, Cond.selects RX1 yX1_firstOnRim yX1_firstOnRim, Cond.code yX1_firstOnRim cX1_firstOnRim 2 (some .int), Cond.methodLink RX1 114 yX1_nextOnRim, Cond.instanceMethod yX1_nextOnRim, Cond.selects RX1 yX1_nextOnRim yX1_nextOnRim, Cond.code yX1_nextOnRim cX1_nextOnRim 3 (some .int), Cond.methodLink RX3 87 yX3_requireCell, Cond.instanceMethod yX3_requireCell, Cond.selects RX3 yX3_requireCell yX3_requireCell, Cond.code yX3_requireCell cX3_requireCell 2 none, Cond.classLink RX3 133 "java/util/NoSuchElementException", Cond.initialized "java/util/NoSuchElementException"]
def wsL_centre_r6 : List Cond := [Cond.fieldLink RX3 84 "CircleCells$Mosaic" "cellCount" "I", Cond.methodLink RX3 105 yX1_circleOf, Cond.instanceMethod yX1_circleOf, Cond.selects RX1 yX1_circleOf yX1_circleOf, Cond.code yX1_circleOf cX1_circleOf 2 (some (.object "CircleCells$Circle")), Cond.methodLink RX3 109 yX0_middle, Cond.instanceMethod yX0_middle, Cond.selects RX0 yX0_middle yX0_middle, Cond.code yX0_middle cX0_middle 10 (some .long), Cond.methodLink RX0 37 Lib.MathLoose.abs_long.x, Cond.static Lib.MathLoose.abs_long.x, Cond.initialized "java/lang/Math", Cond.code Lib.MathLoose.abs_long.x Lib.MathLoose.abs_long.code 2 (some .long), Cond.methodLink RX0 43 yX0_commonDivisor, Cond.static yX0_commonDivisor, Cond.code yX0_commonDivisor cX0_commonDivisor 7 (some .long)]
def wsL_centre : List Cond := .codeWith yL_centre cL_centre 5 (some .int) [(0, 9, 12, 31), (0, 9, 16, 13)] :: ((wsL_centre_r1 ++ (wsL_centre_r2 ++ (wsL_centre_r3 ++ (wsL_centre_r4 ++ (wsL_centre_r5 ++ wsL_centre_r6))))) ++ wsX30 ++ wsX10 ++ wsX20 ++ wsX00 ++ (vx_atS RX3 41 "java/lang/IllegalArgumentException" ["java/lang/RuntimeException", "java/lang/Exception"]).filter goodWord ++ (q_atN RX3 137).filter goodWord)
def wsL_hull_r1 : List Cond := [Cond.classLink RL 33 "java/lang/IndexOutOfBoundsException", Cond.methodLink RL 42 yX3_hull, Cond.instanceMethod yX3_hull, Cond.selects RX3 yX3_hull yX3_hull, Cond.initialized RX3, Cond.code yX3_hull cX3_hull 2 (some .int), Cond.fieldLink RX3 21 "CircleCells" "mosaic" "LCircleCells$Mosaic;", Cond.fieldLink RX3 115 "CircleCells$Mosaic" "rimCount" "I", Cond.fieldLink RX3 118 "CircleCells$Mosaic" "rim" "[I", Cond.methodLink RX3 81 yX3_refresh, Cond.instanceMethod yX3_refresh, Cond.selects RX3 yX3_refresh yX3_refresh, Cond.code yX3_refresh cX3_refresh 1 none, Cond.fieldLink RX3 25 "CircleCells" "stale" "Z", Cond.methodLink RX3 143 yX1_build, Cond.instanceMethod yX1_build, Cond.selects RX1 yX1_build yX1_build, Cond.initialized RX1, Cond.code yX1_build cX1_build 3 none, Cond.fieldLink RX1 28 "CircleCells$Mosaic" "cellCount" "I", Cond.fieldLink RX1 25 "CircleCells$Mosaic" "owner" "[I", Cond.fieldLink RX1 38 "CircleCells$Mosaic" "sites" "LCircleCells$Sites;", Cond.fieldLink RX1 48 "CircleCells$Sites" "size" "I", Cond.methodLink RX1 42 yJ7_fill_53178]
def wsL_hull_r2 : List Cond := [Cond.static yJ7_fill_53178, Cond.initialized RJ7, Cond.code yJ7_fill_53178 cJ7_fill_53178 4 none, Cond.methodLink RX1 53 yX1_layLeftOf, Cond.instanceMethod yX1_layLeftOf, Cond.selects RX1 yX1_layLeftOf yX1_layLeftOf, Cond.code yX1_layLeftOf cX1_layLeftOf 5 (some .boolean), Cond.fieldLink RX1 12 "CircleCells$Mosaic" "circle" "LCircleCells$Circle;", Cond.methodLink RX1 67 yX2_turn_, Cond.instanceMethod yX2_turn_, Cond.selects RX2 yX2_turn_ yX2_turn_, Cond.initialized RX2, Cond.code yX2_turn_ cX2_turn_ 4 (some .int), Cond.fieldLink RX2 9 "CircleCells$Sites" "x" "[I", Cond.fieldLink RX2 15 "CircleCells$Sites" "y" "[I", Cond.methodLink RX2 30 yX2_turn, Cond.instanceMethod yX2_turn, Cond.selects RX2 yX2_turn yX2_turn, Cond.code yX2_turn cX2_turn 5 (some .int), Cond.methodLink RX1 71 yX1_powerOf, Cond.instanceMethod yX1_powerOf, Cond.selects RX1 yX1_powerOf yX1_powerOf, Cond.code yX1_powerOf cX1_powerOf 2 (some .long), Cond.fieldLink RX1 79 "CircleCells$Sites" "x" "[I"]
def wsL_hull_r3 : List Cond := [Cond.fieldLink RX1 82 "CircleCells$Sites" "y" "[I", Cond.methodLink RX1 85 yX0_power, Cond.instanceMethod yX0_power, Cond.selects RX0 yX0_power yX0_power, Cond.initialized RX0, Cond.code yX0_power cX0_power 7 (some .long), Cond.fieldLink RX0 13 "CircleCells$Circle" "fromX" "I", Cond.fieldLink RX0 22 "CircleCells$Circle" "fromY" "I", Cond.fieldLink RX0 34 "CircleCells$Circle" "span" "J", Cond.constantLong RX0 32 (2), Cond.fieldLink RX0 25 "CircleCells$Circle" "aimX" "J", Cond.fieldLink RX0 29 "CircleCells$Circle" "aimY" "J", Cond.methodLink RX1 75 yX0_layThrough, Cond.instanceMethod yX0_layThrough, Cond.selects RX0 yX0_layThrough yX0_layThrough, Cond.code yX0_layThrough cX0_layThrough 17 none, Cond.fieldLink RX0 7 "CircleCells$Sites" "x" "[I", Cond.fieldLink RX0 19 "CircleCells$Sites" "y" "[I", Cond.methodLink RX1 57 yX1_beginsCell, Cond.instanceMethod yX1_beginsCell, Cond.selects RX1 yX1_beginsCell yX1_beginsCell, Cond.code yX1_beginsCell cX1_beginsCell 7 (some .boolean), Cond.methodLink RX1 60 yX1_addCell, Cond.instanceMethod yX1_addCell]
def wsL_hull_r4 : List Cond := [Cond.selects RX1 yX1_addCell yX1_addCell, Cond.code yX1_addCell cX1_addCell 5 none, Cond.fieldLink RX1 22 "CircleCells$Mosaic" "start" "[I", Cond.methodLink RX1 89 yX1_insertRound, Cond.instanceMethod yX1_insertRound, Cond.selects RX1 yX1_insertRound yX1_insertRound, Cond.code yX1_insertRound cX1_insertRound 5 none, Cond.fieldLink RX1 18 "CircleCells$Mosaic" "ring" "[I", Cond.methodLink RX1 93 yX1_claimSides, Cond.instanceMethod yX1_claimSides, Cond.selects RX1 yX1_claimSides yX1_claimSides, Cond.code yX1_claimSides cX1_claimSides 4 none, Cond.methodLink RX1 96 yX1_sideCount, Cond.instanceMethod yX1_sideCount, Cond.selects RX1 yX1_sideCount yX1_sideCount, Cond.code yX1_sideCount cX1_sideCount 2 (some .int), Cond.methodLink RX1 100 yX1_siteOf, Cond.instanceMethod yX1_siteOf, Cond.selects RX1 yX1_siteOf yX1_siteOf, Cond.code yX1_siteOf cX1_siteOf 3 (some .int), Cond.methodLink RX1 104 yX1_siteAfter, Cond.instanceMethod yX1_siteAfter, Cond.selects RX1 yX1_siteAfter yX1_siteAfter, Cond.code yX1_siteAfter cX1_siteAfter 3 (some .int)]
def wsL_hull_r5 : List Cond := [Cond.methodLink RX1 107 yX1_sideKey, Cond.static yX1_sideKey, Cond.code yX1_sideKey cX1_sideKey 2 (some .int), Cond.methodLink RX1 64 yX1_walkRim, Cond.instanceMethod yX1_walkRim, Cond.selects RX1 yX1_walkRim yX1_walkRim, Cond.code yX1_walkRim cX1_walkRim 4 none, Cond.fieldLink RX1 35 "CircleCells$Mosaic" "rimCount" "I", Cond.fieldLink RX1 32 "CircleCells$Mosaic" "rim" "[I", Cond.methodLink RX1 110 yX1_firstOnRim, Cond.instanceMethod yX1_firstOnRim, Cond.selects RX1 yX1_firstOnRim yX1_firstOnRim, Cond.code yX1_firstOnRim cX1_firstOnRim 2 (some .int), Cond.methodLink RX1 114 yX1_nextOnRim, Cond.instanceMethod yX1_nextOnRim, Cond.selects RX1 yX1_nextOnRim yX1_nextOnRim, Cond.code yX1_nextOnRim cX1_nextOnRim 3 (some .int), Cond.methodLink RX3 94 yX3_requireIndex, Cond.static yX3_requireIndex, Cond.code yX3_requireIndex cX3_requireIndex 2 none, Cond.classLink RX3 138 "java/lang/IndexOutOfBoundsException", Cond.initialized "java/lang/IndexOutOfBoundsException"]
def wsL_hull : List Cond := .codeWith yL_hull cL_hull 4 (some .int) [(0, 9, 12, 33)] :: ((wsL_hull_r1 ++ (wsL_hull_r2 ++ (wsL_hull_r3 ++ (wsL_hull_r4 ++ wsL_hull_r5)))) ++ wsX30 ++ wsX10 ++ wsX20 ++ wsX00 ++ (vx_atS RX3 142 "java/lang/IndexOutOfBoundsException" ["java/lang/RuntimeException", "java/lang/Exception"]).filter goodWord)
def wsL_around_r1 : List Cond := [Cond.classLink RL 13 "java/lang/IllegalArgumentException", Cond.methodLink RL 46 yX3_around, Cond.instanceMethod yX3_around, Cond.selects RX3 yX3_around yX3_around, Cond.initialized RX3, Cond.code yX3_around cX3_around 3 (some .int), Cond.fieldLink RX3 21 "CircleCells" "mosaic" "LCircleCells$Mosaic;", Cond.methodLink RX3 29 yX3_requirePlace, Cond.static yX3_requirePlace, Cond.code yX3_requirePlace cX3_requirePlace 2 none, Cond.classLink RX3 37 "java/lang/IllegalArgumentException", Cond.initialized "java/lang/IllegalArgumentException", Cond.methodLink RX3 81 yX3_refresh, Cond.instanceMethod yX3_refresh, Cond.selects RX3 yX3_refresh yX3_refresh, Cond.code yX3_refresh cX3_refresh 1 none, Cond.fieldLink RX3 25 "CircleCells" "stale" "Z", Cond.methodLink RX3 143 yX1_build, Cond.instanceMethod yX1_build, Cond.selects RX1 yX1_build yX1_build, Cond.initialized RX1, Cond.code yX1_build cX1_build 3 none, Cond.fieldLink RX1 28 "CircleCells$Mosaic" "cellCount" "I", Cond.fieldLink RX1 25 "CircleCells$Mosaic" "owner" "[I"]
def wsL_around_r2 : List Cond := [Cond.fieldLink RX1 38 "CircleCells$Mosaic" "sites" "LCircleCells$Sites;", Cond.fieldLink RX1 48 "CircleCells$Sites" "size" "I", Cond.methodLink RX1 42 yJ7_fill_53178, Cond.static yJ7_fill_53178, Cond.initialized RJ7, Cond.code yJ7_fill_53178 cJ7_fill_53178 4 none, Cond.methodLink RX1 53 yX1_layLeftOf, Cond.instanceMethod yX1_layLeftOf, Cond.selects RX1 yX1_layLeftOf yX1_layLeftOf, Cond.code yX1_layLeftOf cX1_layLeftOf 5 (some .boolean), Cond.fieldLink RX1 12 "CircleCells$Mosaic" "circle" "LCircleCells$Circle;", Cond.methodLink RX1 67 yX2_turn_, Cond.instanceMethod yX2_turn_, Cond.selects RX2 yX2_turn_ yX2_turn_, Cond.initialized RX2, Cond.code yX2_turn_ cX2_turn_ 4 (some .int), Cond.fieldLink RX2 9 "CircleCells$Sites" "x" "[I", Cond.fieldLink RX2 15 "CircleCells$Sites" "y" "[I", Cond.methodLink RX2 30 yX2_turn, Cond.instanceMethod yX2_turn, Cond.selects RX2 yX2_turn yX2_turn, Cond.code yX2_turn cX2_turn 5 (some .int), Cond.methodLink RX1 71 yX1_powerOf, Cond.instanceMethod yX1_powerOf]
def wsL_around_r3 : List Cond := [Cond.selects RX1 yX1_powerOf yX1_powerOf, Cond.code yX1_powerOf cX1_powerOf 2 (some .long), Cond.fieldLink RX1 79 "CircleCells$Sites" "x" "[I", Cond.fieldLink RX1 82 "CircleCells$Sites" "y" "[I", Cond.methodLink RX1 85 yX0_power, Cond.instanceMethod yX0_power, Cond.selects RX0 yX0_power yX0_power, Cond.initialized RX0, Cond.code yX0_power cX0_power 7 (some .long), Cond.fieldLink RX0 13 "CircleCells$Circle" "fromX" "I", Cond.fieldLink RX0 22 "CircleCells$Circle" "fromY" "I", Cond.fieldLink RX0 34 "CircleCells$Circle" "span" "J", Cond.constantLong RX0 32 (2), Cond.fieldLink RX0 25 "CircleCells$Circle" "aimX" "J", Cond.fieldLink RX0 29 "CircleCells$Circle" "aimY" "J", Cond.methodLink RX1 75 yX0_layThrough, Cond.instanceMethod yX0_layThrough, Cond.selects RX0 yX0_layThrough yX0_layThrough, Cond.code yX0_layThrough cX0_layThrough 17 none, Cond.fieldLink RX0 7 "CircleCells$Sites" "x" "[I", Cond.fieldLink RX0 19 "CircleCells$Sites" "y" "[I", Cond.methodLink RX1 57 yX1_beginsCell, Cond.instanceMethod yX1_beginsCell, Cond.selects RX1 yX1_beginsCell yX1_beginsCell]
def wsL_around_r4 : List Cond := [Cond.code yX1_beginsCell cX1_beginsCell 7 (some .boolean), Cond.methodLink RX1 60 yX1_addCell, Cond.instanceMethod yX1_addCell, Cond.selects RX1 yX1_addCell yX1_addCell, Cond.code yX1_addCell cX1_addCell 5 none, Cond.fieldLink RX1 22 "CircleCells$Mosaic" "start" "[I", Cond.methodLink RX1 89 yX1_insertRound, Cond.instanceMethod yX1_insertRound, Cond.selects RX1 yX1_insertRound yX1_insertRound, Cond.code yX1_insertRound cX1_insertRound 5 none, Cond.fieldLink RX1 18 "CircleCells$Mosaic" "ring" "[I", Cond.methodLink RX1 93 yX1_claimSides, Cond.instanceMethod yX1_claimSides, Cond.selects RX1 yX1_claimSides yX1_claimSides, Cond.code yX1_claimSides cX1_claimSides 4 none, Cond.methodLink RX1 96 yX1_sideCount, Cond.instanceMethod yX1_sideCount, Cond.selects RX1 yX1_sideCount yX1_sideCount, Cond.code yX1_sideCount cX1_sideCount 2 (some .int), Cond.methodLink RX1 100 yX1_siteOf, Cond.instanceMethod yX1_siteOf, Cond.selects RX1 yX1_siteOf yX1_siteOf, Cond.code yX1_siteOf cX1_siteOf 3 (some .int), Cond.methodLink RX1 104 yX1_siteAfter]
def wsL_around_r5 : List Cond := [Cond.instanceMethod yX1_siteAfter, Cond.selects RX1 yX1_siteAfter yX1_siteAfter, Cond.code yX1_siteAfter cX1_siteAfter 3 (some .int), Cond.methodLink RX1 107 yX1_sideKey, Cond.static yX1_sideKey, Cond.code yX1_sideKey cX1_sideKey 2 (some .int), Cond.methodLink RX1 64 yX1_walkRim, Cond.instanceMethod yX1_walkRim, Cond.selects RX1 yX1_walkRim yX1_walkRim, Cond.code yX1_walkRim cX1_walkRim 4 none, Cond.fieldLink RX1 35 "CircleCells$Mosaic" "rimCount" "I", Cond.fieldLink RX1 32 "CircleCells$Mosaic" "rim" "[I", Cond.methodLink RX1 110 yX1_firstOnRim, Cond.instanceMethod yX1_firstOnRim, Cond.selects RX1 yX1_firstOnRim yX1_firstOnRim, Cond.code yX1_firstOnRim cX1_firstOnRim 2 (some .int), Cond.methodLink RX1 114 yX1_nextOnRim, Cond.instanceMethod yX1_nextOnRim, Cond.selects RX1 yX1_nextOnRim yX1_nextOnRim, Cond.code yX1_nextOnRim cX1_nextOnRim 3 (some .int), Cond.methodLink RX3 121 yX1_firstWith, Cond.instanceMethod yX1_firstWith, Cond.selects RX1 yX1_firstWith yX1_firstWith, Cond.code yX1_firstWith cX1_firstWith 4 (some .int)]
def wsL_around_r6 : List Cond := [Cond.methodLink RX1 117 yX1_holds, Cond.instanceMethod yX1_holds, Cond.selects RX1 yX1_holds yX1_holds, Cond.code yX1_holds cX1_holds 6 (some .boolean), Cond.methodLink RX1 121 yX2_turn]
def wsL_around : List Cond := .codeWith yL_around cL_around 5 (some .int) [(0, 10, 13, 13)] :: ((wsL_around_r1 ++ (wsL_around_r2 ++ (wsL_around_r3 ++ (wsL_around_r4 ++ (wsL_around_r5 ++ wsL_around_r6))))) ++ wsX30 ++ wsX10 ++ wsX20 ++ wsX00 ++ (vx_atS RX3 41 "java/lang/IllegalArgumentException" ["java/lang/RuntimeException", "java/lang/Exception"]).filter goodWord)
def wsL_nearest_r1 : List Cond := [Cond.classLink RL 13 "java/lang/IllegalArgumentException", Cond.classLink RL 15 "java/lang/IllegalStateException", Cond.methodLink RL 49 yX3_nearest, Cond.instanceMethod yX3_nearest, Cond.selects RX3 yX3_nearest yX3_nearest, Cond.initialized RX3, Cond.code yX3_nearest cX3_nearest 3 (some .int), Cond.classLink RX3 48 "java/lang/IllegalStateException", Cond.initialized "java/lang/IllegalStateException", Cond.fieldLink RX3 12 "CircleCells" "sites" "LCircleCells$Sites;", Cond.fieldLink RX3 44 "CircleCells$Sites" "size" "I", Cond.methodLink RX3 29 yX3_requirePlace, Cond.static yX3_requirePlace, Cond.code yX3_requirePlace cX3_requirePlace 2 none, Cond.classLink RX3 37 "java/lang/IllegalArgumentException", Cond.initialized "java/lang/IllegalArgumentException", Cond.methodLink RX3 126 yX2_closestTo, Cond.instanceMethod yX2_closestTo, Cond.selects RX2 yX2_closestTo yX2_closestTo, Cond.initialized RX2, Cond.code yX2_closestTo cX2_closestTo 5 (some .int), Cond.fieldLink RX2 18 "CircleCells$Sites" "size" "I", Cond.methodLink RX2 26 yX2_squareTo, Cond.instanceMethod yX2_squareTo]
def wsL_nearest_r2 : List Cond := [Cond.selects RX2 yX2_squareTo yX2_squareTo, Cond.code yX2_squareTo cX2_squareTo 6 (some .int), Cond.fieldLink RX2 9 "CircleCells$Sites" "x" "[I", Cond.fieldLink RX2 15 "CircleCells$Sites" "y" "[I"]
def wsL_nearest : List Cond := .codeWith yL_nearest cL_nearest 5 (some .int) [(0, 10, 13, 13), (0, 10, 17, 15)] :: ((wsL_nearest_r1 ++ wsL_nearest_r2) ++ wsX30 ++ wsX20 ++ (vx_atS RX3 52 "java/lang/IllegalStateException" ["java/lang/RuntimeException", "java/lang/Exception"]).filter goodWord ++ (vx_atS RX3 41 "java/lang/IllegalArgumentException" ["java/lang/RuntimeException", "java/lang/Exception"]).filter goodWord)
def wsL_law0_r1 : List Cond := [Cond.classLink RL 8 RX3, Cond.instantiable RX3 3, Cond.initialized RX3, Cond.classLink RL 53 RX4, Cond.instantiable RX4 11, Cond.initialized RX4, Cond.arrayClass .long, Cond.methodLink RL 52 yX3_init, Cond.instanceMethod yX3_init, Cond.code yX3_init cX3_init 1 none, Cond.methodLink RX3 3 objectInit, Cond.instanceMethod objectInit, Cond.code objectInit ⟨#[0xb1]⟩ 1 none, Cond.classLink RX3 9 RX2, Cond.instantiable RX2 3, Cond.initialized RX2, Cond.fieldLink RX3 12 "CircleCells" "sites" "LCircleCells$Sites;", Cond.classLink RX3 16 RX1, Cond.instantiable RX1 8, Cond.initialized RX1, Cond.fieldLink RX3 21 "CircleCells" "mosaic" "LCircleCells$Mosaic;", Cond.fieldLink RX3 25 "CircleCells" "stale" "Z", Cond.instanceMethod yX2_init, Cond.code yX2_init cX2_init 1 none]
def wsL_law0_r2 : List Cond := [Cond.methodLink RX2 3 objectInit, Cond.arrayClass .int, Cond.fieldLink RX2 9 "CircleCells$Sites" "x" "[I", Cond.fieldLink RX2 15 "CircleCells$Sites" "y" "[I", Cond.fieldLink RX2 18 "CircleCells$Sites" "size" "I", Cond.methodLink RX3 18 yX1_init, Cond.instanceMethod yX1_init, Cond.code yX1_init cX1_init 2 none, Cond.methodLink RX1 3 objectInit, Cond.classLink RX1 9 RX0, Cond.instantiable RX0 5, Cond.initialized RX0, Cond.fieldLink RX1 12 "CircleCells$Mosaic" "circle" "LCircleCells$Circle;", Cond.fieldLink RX1 18 "CircleCells$Mosaic" "ring" "[I", Cond.fieldLink RX1 22 "CircleCells$Mosaic" "start" "[I", Cond.fieldLink RX1 25 "CircleCells$Mosaic" "owner" "[I", Cond.fieldLink RX1 28 "CircleCells$Mosaic" "cellCount" "I", Cond.fieldLink RX1 32 "CircleCells$Mosaic" "rim" "[I", Cond.fieldLink RX1 35 "CircleCells$Mosaic" "rimCount" "I", Cond.fieldLink RX1 38 "CircleCells$Mosaic" "sites" "LCircleCells$Sites;", Cond.instanceMethod yX0_init, Cond.code yX0_init cX0_init 1 none, Cond.methodLink RX0 1 objectInit, Cond.methodLink RL 55 yX4_init]
def wsL_law0_r3 : List Cond := [Cond.instanceMethod yX4_init, Cond.code yX4_init cX4_init 1 none, Cond.methodLink RX4 1 objectInit, Cond.fieldLink RX4 7 "CircleCellsModel" "x" "[I", Cond.fieldLink RX4 13 "CircleCellsModel" "y" "[I", Cond.fieldLink RX4 16 "CircleCellsModel" "size" "[I", Cond.fieldLink RX4 19 "CircleCellsModel" "round" "[I", Cond.fieldLink RX4 22 "CircleCellsModel" "order" "[I", Cond.fieldLink RX4 25 "CircleCellsModel" "hull" "[I", Cond.methodLink RL 56 yL_site, Cond.static yL_site, Cond.initialized RL, Cond.codeWith yL_site cL_site 5 (some .int) [(0, 10, 13, 13), (0, 10, 17, 15)], Cond.classLink RL 13 "java/lang/IllegalArgumentException", Cond.classLink RL 15 "java/lang/IllegalStateException", Cond.methodLink RL 7 yX3_site, Cond.instanceMethod yX3_site, Cond.selects RX3 yX3_site yX3_site, Cond.code yX3_site cX3_site 3 (some .int), Cond.classLink RX3 37 "java/lang/IllegalArgumentException", Cond.initialized "java/lang/IllegalArgumentException", Cond.classLink RX3 48 "java/lang/IllegalStateException", Cond.initialized "java/lang/IllegalStateException", Cond.fieldLink RX3 44 "CircleCells$Sites" "size" "I"]
def wsL_law0_r4 : List Cond := [Cond.methodLink RX3 29 yX3_requirePlace, Cond.static yX3_requirePlace, Cond.code yX3_requirePlace cX3_requirePlace 2 none, Cond.methodLink RX3 33 yX2_numberAt, Cond.instanceMethod yX2_numberAt, Cond.selects RX2 yX2_numberAt yX2_numberAt, Cond.code yX2_numberAt cX2_numberAt 4 (some .int), Cond.methodLink RX3 53 yX2_append, Cond.instanceMethod yX2_append, Cond.selects RX2 yX2_append yX2_append, Cond.code yX2_append cX2_append 4 (some .int), Cond.methodLink RX2 22 yX2_put, Cond.instanceMethod yX2_put, Cond.selects RX2 yX2_put yX2_put, Cond.code yX2_put cX2_put 4 none, Cond.methodLink RL 61 yX4_site, Cond.instanceMethod yX4_site, Cond.selects RX4 yX4_site yX4_site, Cond.code yX4_site cX4_site 4 (some .int), Cond.fieldLink RX4 32 "CircleCellsModel" "sites" "I", Cond.fieldLink RX4 47 "CircleCellsModel" "made" "Z", Cond.methodLink RX4 35 yX4_isFar, Cond.static yX4_isFar, Cond.code yX4_isFar cX4_isFar 2 (some .boolean)]
def wsL_law0_r5 : List Cond := [Cond.methodLink RX4 39 yX4_isTaken, Cond.instanceMethod yX4_isTaken, Cond.selects RX4 yX4_isTaken yX4_isTaken, Cond.code yX4_isTaken cX4_isTaken 6 (some .boolean), Cond.methodLink RX4 43 yX4_throwing, Cond.instanceMethod yX4_throwing, Cond.selects RX4 yX4_throwing yX4_throwing, Cond.code yX4_throwing cX4_throwing 3 (some .boolean), Cond.fieldLink RX4 28 "CircleCellsModel" "thrown" "I", Cond.methodLink RL 62 yX4_thrown, Cond.instanceMethod yX4_thrown, Cond.selects RX4 yX4_thrown yX4_thrown, Cond.code yX4_thrown cX4_thrown 1 (some .int), Cond.methodLink RL 66 yL_remove, Cond.static yL_remove, Cond.codeWith yL_remove cL_remove 3 (some .int) [(0, 5, 8, 13)], Cond.methodLink RL 17 yX3_remove, Cond.instanceMethod yX3_remove, Cond.selects RX3 yX3_remove yX3_remove, Cond.code yX3_remove cX3_remove 2 none, Cond.methodLink RX3 56 yX3_requireSite, Cond.instanceMethod yX3_requireSite, Cond.selects RX3 yX3_requireSite yX3_requireSite, Cond.code yX3_requireSite cX3_requireSite 2 none]
def wsL_law0_r6 : List Cond := [Cond.methodLink RX3 60 yX2_drop, Cond.instanceMethod yX2_drop, Cond.selects RX2 yX2_drop yX2_drop, Cond.code yX2_drop cX2_drop 3 none, Cond.methodLink RL 69 yX4_remove, Cond.instanceMethod yX4_remove, Cond.selects RX4 yX4_remove yX4_remove, Cond.code yX4_remove cX4_remove 3 none, Cond.methodLink RX4 51 yX4_out, Cond.static yX4_out, Cond.code yX4_out cX4_out 2 (some .boolean), Cond.methodLink RL 70 yL_move, Cond.static yL_move, Cond.codeWith yL_move cL_move 5 (some .int) [(0, 7, 10, 13)], Cond.methodLink RL 21 yX3_move, Cond.instanceMethod yX3_move, Cond.selects RX3 yX3_move yX3_move, Cond.code yX3_move cX3_move 5 none, Cond.methodLink RX3 65 yX2_put, Cond.methodLink RL 73 yX4_move, Cond.instanceMethod yX4_move, Cond.selects RX4 yX4_move yX4_move, Cond.code yX4_move cX4_move 4 none, Cond.methodLink RL 74 yX3_clear]
def wsL_law0_r7 : List Cond := [Cond.instanceMethod yX3_clear, Cond.selects RX3 yX3_clear yX3_clear, Cond.code yX3_clear cX3_clear 1 none, Cond.methodLink RX3 69 yX2_dropAll, Cond.instanceMethod yX2_dropAll, Cond.selects RX2 yX2_dropAll yX2_dropAll, Cond.code yX2_dropAll cX2_dropAll 1 none, Cond.methodLink RL 77 yX4_clear, Cond.instanceMethod yX4_clear, Cond.selects RX4 yX4_clear yX4_clear, Cond.code yX4_clear cX4_clear 1 none, Cond.methodLink RL 78 yL_where, Cond.static yL_where, Cond.codeWith yL_where cL_where 5 (some .int) [(0, 10, 13, 13)], Cond.methodLink RL 25 yX3_where, Cond.instanceMethod yX3_where, Cond.selects RX3 yX3_where yX3_where, Cond.code yX3_where cX3_where 3 (some .int), Cond.fieldLink RX3 74 "CircleCells$Sites" "x" "[I", Cond.fieldLink RX3 78 "CircleCells$Sites" "y" "[I", Cond.methodLink RL 80 yX4_where, Cond.instanceMethod yX4_where, Cond.selects RX4 yX4_where yX4_where, Cond.code yX4_where cX4_where 3 (some .int)]
def wsL_law0_r8 : List Cond := [Cond.methodLink RL 81 yX3_cells, Cond.instanceMethod yX3_cells, Cond.selects RX3 yX3_cells yX3_cells, Cond.code yX3_cells cX3_cells 1 (some .int), Cond.fieldLink RX3 84 "CircleCells$Mosaic" "cellCount" "I", Cond.methodLink RX3 81 yX3_refresh, Cond.instanceMethod yX3_refresh, Cond.selects RX3 yX3_refresh yX3_refresh, Cond.code yX3_refresh cX3_refresh 1 none, Cond.methodLink RX3 143 yX1_build, Cond.instanceMethod yX1_build, Cond.selects RX1 yX1_build yX1_build, Cond.code yX1_build cX1_build 3 none, Cond.fieldLink RX1 48 "CircleCells$Sites" "size" "I", Cond.methodLink RX1 42 yJ7_fill_53178, Cond.static yJ7_fill_53178, Cond.initialized RJ7, Cond.code yJ7_fill_53178 cJ7_fill_53178 4 none, Cond.methodLink RX1 53 yX1_layLeftOf, Cond.instanceMethod yX1_layLeftOf, Cond.selects RX1 yX1_layLeftOf yX1_layLeftOf, Cond.code yX1_layLeftOf cX1_layLeftOf 5 (some .boolean), Cond.methodLink RX1 67 yX2_turn_, Cond.instanceMethod yX2_turn_]
def wsL_law0_r9 : List Cond := [Cond.selects RX2 yX2_turn_ yX2_turn_, Cond.code yX2_turn_ cX2_turn_ 4 (some .int), Cond.methodLink RX2 30 yX2_turn, Cond.instanceMethod yX2_turn, Cond.selects RX2 yX2_turn yX2_turn, Cond.code yX2_turn cX2_turn 5 (some .int), Cond.methodLink RX1 71 yX1_powerOf, Cond.instanceMethod yX1_powerOf, Cond.selects RX1 yX1_powerOf yX1_powerOf, Cond.code yX1_powerOf cX1_powerOf 2 (some .long), Cond.fieldLink RX1 79 "CircleCells$Sites" "x" "[I", Cond.fieldLink RX1 82 "CircleCells$Sites" "y" "[I", Cond.methodLink RX1 85 yX0_power, Cond.instanceMethod yX0_power, Cond.selects RX0 yX0_power yX0_power, Cond.code yX0_power cX0_power 7 (some .long), Cond.fieldLink RX0 13 "CircleCells$Circle" "fromX" "I", Cond.fieldLink RX0 22 "CircleCells$Circle" "fromY" "I", Cond.fieldLink RX0 34 "CircleCells$Circle" "span" "J", Cond.constantLong RX0 32 (2), Cond.fieldLink RX0 25 "CircleCells$Circle" "aimX" "J", Cond.fieldLink RX0 29 "CircleCells$Circle" "aimY" "J", Cond.methodLink RX1 75 yX0_layThrough, Cond.instanceMethod yX0_layThrough]
def wsL_law0_r10 : List Cond := [Cond.selects RX0 yX0_layThrough yX0_layThrough, Cond.code yX0_layThrough cX0_layThrough 17 none, Cond.fieldLink RX0 7 "CircleCells$Sites" "x" "[I", Cond.fieldLink RX0 19 "CircleCells$Sites" "y" "[I", Cond.methodLink RX1 57 yX1_beginsCell, Cond.instanceMethod yX1_beginsCell, Cond.selects RX1 yX1_beginsCell yX1_beginsCell, Cond.code yX1_beginsCell cX1_beginsCell 7 (some .boolean), Cond.methodLink RX1 60 yX1_addCell, Cond.instanceMethod yX1_addCell, Cond.selects RX1 yX1_addCell yX1_addCell, Cond.code yX1_addCell cX1_addCell 5 none, Cond.methodLink RX1 89 yX1_insertRound, Cond.instanceMethod yX1_insertRound, Cond.selects RX1 yX1_insertRound yX1_insertRound, Cond.code yX1_insertRound cX1_insertRound 5 none, Cond.methodLink RX1 93 yX1_claimSides, Cond.instanceMethod yX1_claimSides, Cond.selects RX1 yX1_claimSides yX1_claimSides, Cond.code yX1_claimSides cX1_claimSides 4 none, Cond.methodLink RX1 96 yX1_sideCount, Cond.instanceMethod yX1_sideCount, Cond.selects RX1 yX1_sideCount yX1_sideCount, Cond.code yX1_sideCount cX1_sideCount 2 (some .int)]
def wsL_law0_r11 : List Cond := [Cond.methodLink RX1 100 yX1_siteOf, Cond.instanceMethod yX1_siteOf, Cond.selects RX1 yX1_siteOf yX1_siteOf, Cond.code yX1_siteOf cX1_siteOf 3 (some .int), Cond.methodLink RX1 104 yX1_siteAfter, Cond.instanceMethod yX1_siteAfter, Cond.selects RX1 yX1_siteAfter yX1_siteAfter, Cond.code yX1_siteAfter cX1_siteAfter 3 (some .int), Cond.methodLink RX1 107 yX1_sideKey, Cond.static yX1_sideKey, Cond.code yX1_sideKey cX1_sideKey 2 (some .int), Cond.methodLink RX1 64 yX1_walkRim, Cond.instanceMethod yX1_walkRim, Cond.selects RX1 yX1_walkRim yX1_walkRim, Cond.code yX1_walkRim cX1_walkRim 4 none, Cond.methodLink RX1 110 yX1_firstOnRim, Cond.instanceMethod yX1_firstOnRim, Cond.selects RX1 yX1_firstOnRim yX1_firstOnRim, Cond.code yX1_firstOnRim cX1_firstOnRim 2 (some .int), Cond.methodLink RX1 114 yX1_nextOnRim, Cond.instanceMethod yX1_nextOnRim, Cond.selects RX1 yX1_nextOnRim yX1_nextOnRim, Cond.code yX1_nextOnRim cX1_nextOnRim 3 (some .int), Cond.methodLink RL 84 yX4_cells]
def wsL_law0_r12 : List Cond := [Cond.instanceMethod yX4_cells, Cond.selects RX4 yX4_cells yX4_cells, Cond.code yX4_cells cX4_cells 1 (some .int), Cond.fieldLink RX4 65 "CircleCellsModel" "cells" "I", Cond.methodLink RX4 99 yX4_make, Cond.instanceMethod yX4_make, Cond.selects RX4 yX4_make yX4_make, Cond.code yX4_make cX4_make 6 none, Cond.fieldLink RX4 72 "CircleCellsModel" "hullSize" "I", Cond.methodLink RX4 62 yX4_turn, Cond.instanceMethod yX4_turn, Cond.selects RX4 yX4_turn yX4_turn, Cond.code yX4_turn cX4_turn 5 (some .long), Cond.methodLink RX4 75 yX4_onCircle, Cond.instanceMethod yX4_onCircle, Cond.selects RX4 yX4_onCircle yX4_onCircle, Cond.code yX4_onCircle cX4_onCircle 8 (some .int), Cond.methodLink RX4 58 yX4_power, Cond.instanceMethod yX4_power, Cond.selects RX4 yX4_power yX4_power, Cond.code yX4_power cX4_power 21 (some .long), Cond.methodLink RX4 54 yX4_square, Cond.instanceMethod yX4_square, Cond.selects RX4 yX4_square yX4_square]
def wsL_law0_r13 : List Cond := [Cond.code yX4_square cX4_square 3 (some .long), Cond.methodLink RX4 79 yX4_add, Cond.instanceMethod yX4_add, Cond.selects RX4 yX4_add yX4_add, Cond.code yX4_add cX4_add 5 none, Cond.methodLink RX4 68 yX4_behind, Cond.instanceMethod yX4_behind, Cond.selects RX4 yX4_behind yX4_behind, Cond.code yX4_behind cX4_behind 6 (some .int), Cond.methodLink RX4 83 yX4_isBefore, Cond.instanceMethod yX4_isBefore, Cond.selects RX4 yX4_isBefore yX4_isBefore, Cond.code yX4_isBefore cX4_isBefore 4 (some .boolean), Cond.methodLink RX4 86 yX4_surround, Cond.instanceMethod yX4_surround, Cond.selects RX4 yX4_surround yX4_surround, Cond.code yX4_surround cX4_surround 3 none, Cond.methodLink RX4 95 yX4_onHull, Cond.instanceMethod yX4_onHull, Cond.selects RX4 yX4_onHull yX4_onHull, Cond.code yX4_onHull cX4_onHull 4 (some .int), Cond.methodLink RX4 89 yX4_after, Cond.instanceMethod yX4_after, Cond.selects RX4 yX4_after yX4_after]
def wsL_law0_r14 : List Cond := [Cond.code yX4_after cX4_after 3 (some .int), Cond.methodLink RX4 92 yX4_withSide, Cond.instanceMethod yX4_withSide, Cond.selects RX4 yX4_withSide yX4_withSide, Cond.code yX4_withSide cX4_withSide 6 (some .int), Cond.methodLink RL 85 yL_cell, Cond.static yL_cell, Cond.codeWith yL_cell cL_cell 5 (some .int) [(0, 10, 13, 31), (0, 10, 17, 33)], Cond.classLink RL 31 "java/util/NoSuchElementException", Cond.classLink RL 33 "java/lang/IndexOutOfBoundsException", Cond.methodLink RL 28 yX3_cell, Cond.instanceMethod yX3_cell, Cond.selects RX3 yX3_cell yX3_cell, Cond.code yX3_cell cX3_cell 4 (some .int), Cond.methodLink RX3 87 yX3_requireCell, Cond.instanceMethod yX3_requireCell, Cond.selects RX3 yX3_requireCell yX3_requireCell, Cond.code yX3_requireCell cX3_requireCell 2 none, Cond.classLink RX3 133 "java/util/NoSuchElementException", Cond.initialized "java/util/NoSuchElementException", Cond.methodLink RX3 90 yX1_sideCount, Cond.methodLink RX3 94 yX3_requireIndex, Cond.static yX3_requireIndex, Cond.code yX3_requireIndex cX3_requireIndex 2 none]
def wsL_law0_r15 : List Cond := [Cond.classLink RX3 138 "java/lang/IndexOutOfBoundsException", Cond.initialized "java/lang/IndexOutOfBoundsException", Cond.methodLink RX3 97 yX1_siteOf, Cond.methodLink RL 87 yX4_cell, Cond.instanceMethod yX4_cell, Cond.selects RX4 yX4_cell yX4_cell, Cond.code yX4_cell cX4_cell 5 (some .int), Cond.methodLink RL 88 yL_beside, Cond.static yL_beside, Cond.codeWith yL_beside cL_beside 5 (some .int) [(0, 10, 13, 31), (0, 10, 17, 33)], Cond.methodLink RL 35 yX3_beside, Cond.instanceMethod yX3_beside, Cond.selects RX3 yX3_beside yX3_beside, Cond.code yX3_beside cX3_beside 3 (some .int), Cond.methodLink RX3 100 yX1_across, Cond.instanceMethod yX1_across, Cond.selects RX1 yX1_across yX1_across, Cond.code yX1_across cX1_across 3 (some .int), Cond.methodLink RL 90 yX4_beside, Cond.instanceMethod yX4_beside, Cond.selects RX4 yX4_beside yX4_beside, Cond.code yX4_beside cX4_beside 5 (some .int), Cond.methodLink RL 91 yL_centre, Cond.static yL_centre]
def wsL_law0_r16 : List Cond := [Cond.codeWith yL_centre cL_centre 5 (some .int) [(0, 9, 12, 31), (0, 9, 16, 13)], Cond.methodLink RL 38 yX3_centre, Cond.instanceMethod yX3_centre, Cond.selects RX3 yX3_centre yX3_centre, Cond.code yX3_centre cX3_centre 3 (some .long), Cond.methodLink RX3 105 yX1_circleOf, Cond.instanceMethod yX1_circleOf, Cond.selects RX1 yX1_circleOf yX1_circleOf, Cond.code yX1_circleOf cX1_circleOf 2 (some (.object "CircleCells$Circle")), Cond.methodLink RX3 109 yX0_middle, Cond.instanceMethod yX0_middle, Cond.selects RX0 yX0_middle yX0_middle, Cond.code yX0_middle cX0_middle 10 (some .long), Cond.methodLink RX0 37 Lib.MathLoose.abs_long.x, Cond.static Lib.MathLoose.abs_long.x, Cond.initialized "java/lang/Math", Cond.code Lib.MathLoose.abs_long.x Lib.MathLoose.abs_long.code 2 (some .long), Cond.methodLink RX0 43 yX0_commonDivisor, Cond.static yX0_commonDivisor, Cond.code yX0_commonDivisor cX0_commonDivisor 7 (some .long), Cond.methodLink RL 93 yX4_centre, Cond.instanceMethod yX4_centre, Cond.selects RX4 yX4_centre yX4_centre, Cond.code yX4_centre cX4_centre 22 (some .long)]
def wsL_law0_r17 : List Cond := [Cond.constantLong RX4 102 (2), Cond.methodLink RX4 104 yX4_divisor, Cond.static yX4_divisor, Cond.code yX4_divisor cX4_divisor 8 (some .long), Cond.methodLink RL 94 yL_hull, Cond.static yL_hull, Cond.codeWith yL_hull cL_hull 4 (some .int) [(0, 9, 12, 33)], Cond.methodLink RL 42 yX3_hull, Cond.instanceMethod yX3_hull, Cond.selects RX3 yX3_hull yX3_hull, Cond.code yX3_hull cX3_hull 2 (some .int), Cond.fieldLink RX3 115 "CircleCells$Mosaic" "rimCount" "I", Cond.fieldLink RX3 118 "CircleCells$Mosaic" "rim" "[I", Cond.methodLink RL 97 yX4_hull, Cond.instanceMethod yX4_hull, Cond.selects RX4 yX4_hull yX4_hull, Cond.code yX4_hull cX4_hull 2 (some .int), Cond.methodLink RL 98 yL_around, Cond.static yL_around, Cond.codeWith yL_around cL_around 5 (some .int) [(0, 10, 13, 13)], Cond.methodLink RL 46 yX3_around, Cond.instanceMethod yX3_around, Cond.selects RX3 yX3_around yX3_around, Cond.code yX3_around cX3_around 3 (some .int)]
def wsL_law0_r18 : List Cond := [Cond.methodLink RX3 121 yX1_firstWith, Cond.instanceMethod yX1_firstWith, Cond.selects RX1 yX1_firstWith yX1_firstWith, Cond.code yX1_firstWith cX1_firstWith 4 (some .int), Cond.methodLink RX1 117 yX1_holds, Cond.instanceMethod yX1_holds, Cond.selects RX1 yX1_holds yX1_holds, Cond.code yX1_holds cX1_holds 6 (some .boolean), Cond.methodLink RX1 121 yX2_turn, Cond.methodLink RL 100 yX4_around, Cond.instanceMethod yX4_around, Cond.selects RX4 yX4_around yX4_around, Cond.code yX4_around cX4_around 7 (some .int), Cond.methodLink RL 101 yL_nearest, Cond.static yL_nearest, Cond.codeWith yL_nearest cL_nearest 5 (some .int) [(0, 10, 13, 13), (0, 10, 17, 15)], Cond.methodLink RL 49 yX3_nearest, Cond.instanceMethod yX3_nearest, Cond.selects RX3 yX3_nearest yX3_nearest, Cond.code yX3_nearest cX3_nearest 3 (some .int), Cond.methodLink RX3 126 yX2_closestTo, Cond.instanceMethod yX2_closestTo, Cond.selects RX2 yX2_closestTo yX2_closestTo, Cond.code yX2_closestTo cX2_closestTo 5 (some .int)]
def wsL_law0_r19 : List Cond := [Cond.methodLink RX2 26 yX2_squareTo, Cond.instanceMethod yX2_squareTo, Cond.selects RX2 yX2_squareTo yX2_squareTo, Cond.code yX2_squareTo cX2_squareTo 6 (some .int), Cond.methodLink RL 103 yX4_nearest, Cond.instanceMethod yX4_nearest, Cond.selects RX4 yX4_nearest yX4_nearest, Cond.code yX4_nearest cX4_nearest 10 (some .int)]
def wsL_law0 : List Cond := (wsL_law0_r1 ++ (wsL_law0_r2 ++ (wsL_law0_r3 ++ (wsL_law0_r4 ++ (wsL_law0_r5 ++ (wsL_law0_r6 ++ (wsL_law0_r7 ++ (wsL_law0_r8 ++ (wsL_law0_r9 ++ (wsL_law0_r10 ++ (wsL_law0_r11 ++ (wsL_law0_r12 ++ (wsL_law0_r13 ++ (wsL_law0_r14 ++ (wsL_law0_r15 ++ (wsL_law0_r16 ++ (wsL_law0_r17 ++ (wsL_law0_r18 ++ wsL_law0_r19)))))))))))))))))) ++ wsX30 ++ wsX40 ++ wsX20 ++ wsX10 ++ wsX00 ++ ([] : List Cond)
def wsL_law : List Cond := wsL_law0 ++ (vx_atS RX3 41 "java/lang/IllegalArgumentException" ["java/lang/RuntimeException", "java/lang/Exception"]).filter goodWord ++ (vx_atS RX3 52 "java/lang/IllegalStateException" ["java/lang/RuntimeException", "java/lang/Exception"]).filter goodWord ++ (q_atN RX3 137).filter goodWord ++ (vx_atS RX3 142 "java/lang/IndexOutOfBoundsException" ["java/lang/RuntimeException", "java/lang/Exception"]).filter goodWord
abbrev vwCl : List vw_C := [(RX0, TX0, 5), (RX1, TX1, 8), (RX2, TX2, 3), (RX3, TX3, 3), (RX4, TX4, 11)]
end
section
/-! Rows of my own over the kit: reading methods (nothing is written: the heap stays), arrays by natural places. -/
/-- the start of a reading method: its arguments, the cells that it reads, the array types -/
def q_Pc (D : va_G) (av : List Value) (ws : va_W) (tys : List (ClassId × FieldType)) : Array Value → State → Prop := va_Pc av (fun U => va_P D vwCl ws U.heap ∧ va_K D vwCl tys U)
/-- a truth as the machine has it -/
def bI (b : Bool) : Int32 := if b then 1 else 0
theorem bI_0 {b : Bool} : bI b = 0 ↔ b = false := by cases b <;> simp [bI]
theorem bI_1 {b : Bool} (h : ¬ bI b = 0) : b = true := by cases b <;> simp [bI] at h ⊢
theorem bI_nar (b : Bool) : narrow .boolean (.int (bI b)) = .int (bI b) := by cases b <;> rfl
theorem bI_fit (b : Bool) : fits .boolean (.int (bI b)) = true := by cases b <;> rfl
/-- an array of naturals, one place changed -/
def updN (g : Nat → Nat) (k v : Nat) : Nat → Nat := fun j => if j = k then v else g j
theorem upd_nI {g : Nat → Nat} {k v : Nat} : upd (fun j => nI (g j)) k (nI v) = fun j => nI (updN g k v j) := by
  funext j
  by_cases h : j = k <;> simp [upd, updN, h]
theorem q_inc (x n : Nat) : nI x + Int32.ofInt n = nI (x + n) := by
  rw [← nI_add]; rfl
section QB
variable {p : Program} {l : Launch} {e : Env} {R : Room} {s : State} {m : MethodId} {args : Array Value} {below : List Frame} {meth : Method} {c : Code} {H : Heap} {locs : List Loc} {cells slots : Nat} {Q : State → Prop}
variable {cc : ByteArray} {pc : Nat} {ls : Array Slot} {rest st0 : List Value} {D : va_G} {A : Nat → Prop} {a : Nat} {tys : List (ClassId × FieldType)} {ws : va_W} {H0 : Heap}
theorem q_blind {av : List Value} : FrameBlind (q_Pc D av ws tys) := fun a U g mk q => by
  obtain ⟨q0, qP, qK⟩ := q
  exact ⟨q0, qP, va_K.moved (u := U) (U := U.calling g mk a) (Vm.Alike.refl U.vm) qK⟩
theorem q_pS {av As : List Value} {ws' : va_W} {tys' : List (ClassId × FieldType)} (hK : va_K D vwCl tys s) (hP : va_P D vwCl ws H) (is js : List Nat) (hs : is.filterMap (fun i => ws[i]?) = ws') (hj : js.filterMap (fun i => tys[i]?) = tys') (hav : As = av) : PreS s H (q_Pc D av ws' tys') As := by
  subst hav
  exact ⟨q_blind, fun U hU hW => ⟨rfl, by rw [hU]; exact hP.sub is hs, va_K.moved hW.alike (hK.sub js hj)⟩⟩
theorem q_pV {av As : List Value} {ws' : va_W} {tys' : List (ClassId × FieldType)} {C : String} {b : Addr} {q : vw_C} {fs : List Value} (hK : va_K D vwCl tys s) (hP : va_P D vwCl ws H) (is js : List Nat) (ci q0 : Nat) (hs : is.filterMap (fun i => ws[i]?) = ws') (hj : js.filterMap (fun i => tys[i]?) = tys') (hav : .ref b :: As = av) (hc : vwCl[ci]? = some q) (hC : q.1 = C) (he : ws[q0]? = some (b, .inr (ci, fs))) : PreV s H C b (q_Pc D av ws' tys') As := by
  subst hav
  subst hC
  exact ⟨q_blind, va_recv hK hP hc he, fun U hU hW => ⟨rfl, by rw [hU]; exact hP.sub is hs, va_K.moved hW.alike (hK.sub js hj)⟩⟩
/-- a call of a reading method -/
theorem q_cV {y : MethodName} {bytes : ByteArray} {maxL nL n index : Nat} {ret : Option FieldType} {wsy : List Cond} {rm : Room} {Pc : Array Value → State → Prop} {Ts : List Cond} {own C : String} {b : Addr} {As : List Value} {r : Value}
    (S : CallFix p m c cc nL s args Ts own) (hM : Met l y wsy rm Pc (k2_QcV r) 0 0 (fun _ => False)) (cw : CallW R s args own C index y bytes maxL ret wsy rm 0 0 n) (hp : PreV s H C b Pc As)
    (hn : As.length = n) (hl : ls.size = nL) (hst : st0 = As.reverse ++ .ref b :: rest) (hW : (rest.map fun v => v.category).sum ≤ 8) (hf : cells ≤ R.cells ∧ slots ≤ R.slots) (hdg : decode cc pc = .ok (.invokevirtual index, 3))
    (kk : W p l e R s m args below meth c H locs cells slots Q (F0 m (pc + 3) ls (r :: rest))) : W p l e R s m args below meth c H locs cells slots Q (F0 m pc ls st0) :=
  W.callV (W.runV S hM cw hp rfl hn hl hst (lv_room hW) hdg hf) kk
theorem q_cS {y : MethodName} {bytes : ByteArray} {maxL nL n index : Nat} {ret : Option FieldType} {wsy : List Cond} {rm : Room} {Pc : Array Value → State → Prop} {Ts : List Cond} {own : String} {As : List Value} {r : Value}
    (S : CallFix p m c cc nL s args Ts own) (hM : Met l y wsy rm Pc (k2_QcV r) 0 0 (fun _ => False)) (cw : CallB R s args own index y bytes maxL ret wsy rm 0 0 n ∧ (Cond.static y).before args s = true) (hp : PreS s H Pc As)
    (hn : As.length = n) (hl : ls.size = nL) (hst : st0 = As.reverse ++ rest) (hW : (rest.map fun v => v.category).sum ≤ 8) (hf : cells ≤ R.cells ∧ slots ≤ R.slots) (hdg : decode cc pc = .ok (.invokestatic index, 3))
    (kk : W p l e R s m args below meth c H locs cells slots Q (F0 m (pc + 3) ls (r :: rest))) : W p l e R s m args below meth c H locs cells slots Q (F0 m pc ls st0) :=
  W.callV (W.runS S hM cw hp rfl hn hl hst (lv_room hW) hdg hf) kk
/-- an array by a natural place -/
theorem q_iald (hexec : p.tables.exec = Jvm.exec) (hb : c.code = cc) (hK : va_K D vwCl tys s) (hP : va_P D vwCl ws H) (q0 t0 : Nat) {cA : ClassId} {n : Nat} {f : Nat → Int32} (ha : ws[q0]? = some (a, .inl (cA, n, .inl f))) (ht : tys[t0]? = some (cA, .int)) {i : Int32} (k : Nat) (hi : i = nI k) (hk : k < n) (hn : n < 2 ^ 31) (hdg : decode cc pc = .ok (.iaload, 1))
    (kk : W p l e R s m args below meth c H locs cells slots Q (F0 m (pc + 1) ls (.int (f k) :: rest))) : W p l e R s m args below meth c H locs cells slots Q (F0 m pc ls (.int i :: .ref a :: rest)) := by
  subst hi
  refine va_iald hexec hb hK hP q0 t0 ha ht (vp_in_nI hk hn) hdg ?_
  rw [nI_clamp (Nat.lt_trans hk hn)]
  exact kk
theorem q_iast (hexec : p.tables.exec = Jvm.exec) (hb : c.code = cc) (hK : va_K D vwCl tys s) (hP : va_P D vwCl ws H) (hD : va_D A ws) (hS : va_S A H0 H locs) (q0 t0 : Nat) {cA : ClassId} {n : Nat} {f : Nat → Int32} (ha : ws[q0]? = some (a, .inl (cA, n, .inl f))) (ht : tys[t0]? = some (cA, .int)) {i : Int32} {x : Int32} (k : Nat) (hi : i = nI k) (hk : k < n) (hn : n < 2 ^ 31) (hdg : decode cc pc = .ok (.iastore, 1)) {ws' : va_W} (hw : ws.set q0 (a, .inl (cA, n, .inl (upd f k x))) = ws')
    (kk : ∀ (H1 : Heap) (locs1 : List Loc), va_P D vwCl ws' H1 → va_D A ws' → va_S A H0 H1 locs1 → W p l e R s m args below meth c H1 locs1 cells slots Q (F0 m (pc + 1) ls rest)) : W p l e R s m args below meth c H locs cells slots Q (F0 m pc ls (.int x :: .int i :: .ref a :: rest)) := by
  subst hi
  subst hw
  refine va_iast hexec hb hK hP hD hS q0 t0 ha ht (vp_in_nI hk hn) hdg ?_
  rw [nI_clamp (Nat.lt_trans hk hn)]
  exact kk
theorem q_last (hexec : p.tables.exec = Jvm.exec) (hb : c.code = cc) (hK : va_K D vwCl tys s) (hP : va_P D vwCl ws H) (hD : va_D A ws) (hS : va_S A H0 H locs) (q0 t0 : Nat) {cA : ClassId} {n : Nat} {f : Nat → Int64} (ha : ws[q0]? = some (a, .inl (cA, n, .inr (.inl f)))) (ht : tys[t0]? = some (cA, .long)) {i : Int32} {x : Int64} (k : Nat) (hi : i = nI k) (hk : k < n) (hn : n < 2 ^ 31) (hdg : decode cc pc = .ok (.lastore, 1)) {ws' : va_W} (hw : ws.set q0 (a, .inl (cA, n, .inr (.inl (vp_updL f k x)))) = ws')
    (kk : ∀ (H1 : Heap) (locs1 : List Loc), va_P D vwCl ws' H1 → va_D A ws' → va_S A H0 H1 locs1 → W p l e R s m args below meth c H1 locs1 cells slots Q (F0 m (pc + 1) ls rest)) : W p l e R s m args below meth c H locs cells slots Q (F0 m pc ls (.long x :: .int i :: .ref a :: rest)) := by
  subst hi
  subst hw
  refine va_last hexec hb hK hP hD hS q0 t0 ha ht (vp_in_nI hk hn) hdg ?_
  rw [nI_clamp (Nat.lt_trans hk hn)]
  exact kk
theorem q_iadd (hexec : p.tables.exec = Jvm.exec) (hb : c.code = cc) {x y : Nat} (hdg : decode cc pc = .ok (.iadd, 1)) (kk : W p l e R s m args below meth c H locs cells slots Q (F0 m (pc + 1) ls (.int (nI (x + y)) :: rest))) : W p l e R s m args below meth c H locs cells slots Q (F0 m pc ls (.int (nI y) :: .int (nI x) :: rest)) := lv_iadd hexec hb hdg (by rw [nI_add]; exact kk)
theorem q_imul (hexec : p.tables.exec = Jvm.exec) (hb : c.code = cc) {x y : Nat} (hdg : decode cc pc = .ok (.imul, 1)) (kk : W p l e R s m args below meth c H locs cells slots Q (F0 m (pc + 1) ls (.int (nI (x * y)) :: rest))) : W p l e R s m args below meth c H locs cells slots Q (F0 m pc ls (.int (nI y) :: .int (nI x) :: rest)) := lv_imul hexec hb hdg (by rw [pk_mul]; exact kk)
theorem q_isub {x y : Nat} (hxy : y ≤ x) (hexec : p.tables.exec = Jvm.exec) (hb : c.code = cc) (hdg : decode cc pc = .ok (.isub, 1)) (kk : W p l e R s m args below meth c H locs cells slots Q (F0 m (pc + 1) ls (.int (nI (x - y)) :: rest))) : W p l e R s m args below meth c H locs cells slots Q (F0 m pc ls (.int (nI y) :: .int (nI x) :: rest)) := lv_isub hexec hb hdg (by rw [pk_sub hxy]; exact kk)
theorem q_icmp_eq {x y : Nat} {off : Int} {tgt : Nat} (hx9 : x < 2 ^ 31) (hy9 : y < 2 ^ 31) (hexec : p.tables.exec = Jvm.exec) (hb : c.code = cc) (hdg : decode cc pc = .ok (.if_icmp .eq off, 3)) (ht : (pc : Int) + off = (tgt : Int)) (kt : x = y → W p l e R s m args below meth c H locs cells slots Q (F0 m tgt ls rest)) (kf : ¬ x = y → W p l e R s m args below meth c H locs cells slots Q (F0 m (pc + 3) ls rest)) : W p l e R s m args below meth c H locs cells slots Q (F0 m pc ls (.int (nI y) :: .int (nI x) :: rest)) := lv_icmp_eq hexec hb hdg ht (fun h => kt ((nI_eq hx9 hy9).mp h)) (fun h => kf (fun h2 => h ((nI_eq hx9 hy9).mpr h2)))
theorem q_icmp_ne {x y : Nat} {off : Int} {tgt : Nat} (hx9 : x < 2 ^ 31) (hy9 : y < 2 ^ 31) (hexec : p.tables.exec = Jvm.exec) (hb : c.code = cc) (hdg : decode cc pc = .ok (.if_icmp .ne off, 3)) (ht : (pc : Int) + off = (tgt : Int)) (kt : ¬ x = y → W p l e R s m args below meth c H locs cells slots Q (F0 m tgt ls rest)) (kf : x = y → W p l e R s m args below meth c H locs cells slots Q (F0 m (pc + 3) ls rest)) : W p l e R s m args below meth c H locs cells slots Q (F0 m pc ls (.int (nI y) :: .int (nI x) :: rest)) := lv_icmp_ne hexec hb hdg ht (fun h => kt (fun h2 => h ((nI_eq hx9 hy9).mpr h2))) (fun h => kf ((nI_eq hx9 hy9).mp h))
theorem q_icmp_lt {x y : Nat} {off : Int} {tgt : Nat} (hx9 : x < 2 ^ 31) (hy9 : y < 2 ^ 31) (hexec : p.tables.exec = Jvm.exec) (hb : c.code = cc) (hdg : decode cc pc = .ok (.if_icmp .lt off, 3)) (ht : (pc : Int) + off = (tgt : Int)) (kt : x < y → W p l e R s m args below meth c H locs cells slots Q (F0 m tgt ls rest)) (kf : y ≤ x → W p l e R s m args below meth c H locs cells slots Q (F0 m (pc + 3) ls rest)) : W p l e R s m args below meth c H locs cells slots Q (F0 m pc ls (.int (nI y) :: .int (nI x) :: rest)) := lv_icmp_lt hexec hb hdg ht (fun h => kt ((nI_ltI hx9 hy9).mp h)) (fun h => kf (Nat.not_lt.mp (fun h2 => h ((nI_ltI hx9 hy9).mpr h2))))
theorem q_icmp_ge {x y : Nat} {off : Int} {tgt : Nat} (hx9 : x < 2 ^ 31) (hy9 : y < 2 ^ 31) (hexec : p.tables.exec = Jvm.exec) (hb : c.code = cc) (hdg : decode cc pc = .ok (.if_icmp .ge off, 3)) (ht : (pc : Int) + off = (tgt : Int)) (kt : y ≤ x → W p l e R s m args below meth c H locs cells slots Q (F0 m tgt ls rest)) (kf : x < y → W p l e R s m args below meth c H locs cells slots Q (F0 m (pc + 3) ls rest)) : W p l e R s m args below meth c H locs cells slots Q (F0 m pc ls (.int (nI y) :: .int (nI x) :: rest)) := lv_icmp_ge hexec hb hdg ht (fun h => kt ((nI_leI hy9 hx9).mp h)) (fun h => kf (Nat.not_le.mp (fun h2 => h ((nI_leI hy9 hx9).mpr h2))))
theorem q_icmp_gt {x y : Nat} {off : Int} {tgt : Nat} (hx9 : x < 2 ^ 31) (hy9 : y < 2 ^ 31) (hexec : p.tables.exec = Jvm.exec) (hb : c.code = cc) (hdg : decode cc pc = .ok (.if_icmp .gt off, 3)) (ht : (pc : Int) + off = (tgt : Int)) (kt : y < x → W p l e R s m args below meth c H locs cells slots Q (F0 m tgt ls rest)) (kf : x ≤ y → W p l e R s m args below meth c H locs cells slots Q (F0 m (pc + 3) ls rest)) : W p l e R s m args below meth c H locs cells slots Q (F0 m pc ls (.int (nI y) :: .int (nI x) :: rest)) := lv_icmp_gt hexec hb hdg ht (fun h => kt ((nI_ltI hy9 hx9).mp h)) (fun h => kf (Nat.not_lt.mp (fun h2 => h ((nI_ltI hy9 hx9).mpr h2))))
theorem q_icmp_le {x y : Nat} {off : Int} {tgt : Nat} (hx9 : x < 2 ^ 31) (hy9 : y < 2 ^ 31) (hexec : p.tables.exec = Jvm.exec) (hb : c.code = cc) (hdg : decode cc pc = .ok (.if_icmp .le off, 3)) (ht : (pc : Int) + off = (tgt : Int)) (kt : x ≤ y → W p l e R s m args below meth c H locs cells slots Q (F0 m tgt ls rest)) (kf : y < x → W p l e R s m args below meth c H locs cells slots Q (F0 m (pc + 3) ls rest)) : W p l e R s m args below meth c H locs cells slots Q (F0 m pc ls (.int (nI y) :: .int (nI x) :: rest)) := lv_icmp_le hexec hb hdg ht (fun h => kt ((nI_leI hx9 hy9).mp h)) (fun h => kf (Nat.not_le.mp (fun h2 => h ((nI_leI hx9 hy9).mpr h2))))
theorem q_ifb_eq {x : Bool} {off : Int} {tgt : Nat} (hexec : p.tables.exec = Jvm.exec) (hb : c.code = cc) (hdg : decode cc pc = .ok (.ifCond .eq off, 3)) (ht : (pc : Int) + off = (tgt : Int)) (kt : x = false → W p l e R s m args below meth c H locs cells slots Q (F0 m tgt ls rest)) (kf : x = true → W p l e R s m args below meth c H locs cells slots Q (F0 m (pc + 3) ls rest)) : W p l e R s m args below meth c H locs cells slots Q (F0 m pc ls (.int (bI x) :: rest)) := lv_if_eq hexec hb hdg ht (fun h => kt (bI_0.mp h)) (fun h => kf (bI_1 h))
theorem q_ifb_ne {x : Bool} {off : Int} {tgt : Nat} (hexec : p.tables.exec = Jvm.exec) (hb : c.code = cc) (hdg : decode cc pc = .ok (.ifCond .ne off, 3)) (ht : (pc : Int) + off = (tgt : Int)) (kt : x = true → W p l e R s m args below meth c H locs cells slots Q (F0 m tgt ls rest)) (kf : x = false → W p l e R s m args below meth c H locs cells slots Q (F0 m (pc + 3) ls rest)) : W p l e R s m args below meth c H locs cells slots Q (F0 m pc ls (.int (bI x) :: rest)) := lv_if_ne hexec hb hdg ht (fun h => kt (bI_1 h)) (fun h => kf (bI_0.mp h))
theorem q_lcmp_eq {x y : Int64} {off : Int} {tgt : Nat} (hexec : p.tables.exec = Jvm.exec) (hb : c.code = cc) (hdg : decode cc pc = .ok (.lcmp, 1)) (hdg2 : decode cc (pc + 1) = .ok (.ifCond .eq off, 3)) (ht : ((pc + 1 : Nat) : Int) + off = (tgt : Int)) (kt : x = y → W p l e R s m args below meth c H locs cells slots Q (F0 m tgt ls rest)) (kf : ¬ x = y → W p l e R s m args below meth c H locs cells slots Q (F0 m (pc + 1 + 3) ls rest)) : W p l e R s m args below meth c H locs cells slots Q (F0 m pc ls (.long y :: .long x :: rest)) := W.lcmp hexec hb hdg (lv_if_eq hexec hb hdg2 ht (fun h => kt ((lg_cmp_eq x y).mp h)) (fun h => kf (fun h2 => h ((lg_cmp_eq x y).mpr h2))))
theorem q_lcmp_ne {x y : Int64} {off : Int} {tgt : Nat} (hexec : p.tables.exec = Jvm.exec) (hb : c.code = cc) (hdg : decode cc pc = .ok (.lcmp, 1)) (hdg2 : decode cc (pc + 1) = .ok (.ifCond .ne off, 3)) (ht : ((pc + 1 : Nat) : Int) + off = (tgt : Int)) (kt : ¬ x = y → W p l e R s m args below meth c H locs cells slots Q (F0 m tgt ls rest)) (kf : x = y → W p l e R s m args below meth c H locs cells slots Q (F0 m (pc + 1 + 3) ls rest)) : W p l e R s m args below meth c H locs cells slots Q (F0 m pc ls (.long y :: .long x :: rest)) := W.lcmp hexec hb hdg (lv_if_ne hexec hb hdg2 ht (fun h => kt (fun h2 => h ((lg_cmp_eq x y).mpr h2))) (fun h => kf ((lg_cmp_eq x y).mp h)))
theorem q_lcmp_lt {x y : Int64} {off : Int} {tgt : Nat} (hexec : p.tables.exec = Jvm.exec) (hb : c.code = cc) (hdg : decode cc pc = .ok (.lcmp, 1)) (hdg2 : decode cc (pc + 1) = .ok (.ifCond .lt off, 3)) (ht : ((pc + 1 : Nat) : Int) + off = (tgt : Int)) (kt : x < y → W p l e R s m args below meth c H locs cells slots Q (F0 m tgt ls rest)) (kf : ¬ x < y → W p l e R s m args below meth c H locs cells slots Q (F0 m (pc + 1 + 3) ls rest)) : W p l e R s m args below meth c H locs cells slots Q (F0 m pc ls (.long y :: .long x :: rest)) := W.lcmp hexec hb hdg (lv_if_lt hexec hb hdg2 ht (fun h => kt ((lg_cmp_lt x y).mp h)) (fun h => kf (fun h2 => h ((lg_cmp_lt x y).mpr h2))))
theorem q_lcmp_ge {x y : Int64} {off : Int} {tgt : Nat} (hexec : p.tables.exec = Jvm.exec) (hb : c.code = cc) (hdg : decode cc pc = .ok (.lcmp, 1)) (hdg2 : decode cc (pc + 1) = .ok (.ifCond .ge off, 3)) (ht : ((pc + 1 : Nat) : Int) + off = (tgt : Int)) (kt : y ≤ x → W p l e R s m args below meth c H locs cells slots Q (F0 m tgt ls rest)) (kf : ¬ y ≤ x → W p l e R s m args below meth c H locs cells slots Q (F0 m (pc + 1 + 3) ls rest)) : W p l e R s m args below meth c H locs cells slots Q (F0 m pc ls (.long y :: .long x :: rest)) := W.lcmp hexec hb hdg (lv_if_ge hexec hb hdg2 ht (fun h => kt ((lg_cmp_ge x y).mp h)) (fun h => kf (fun h2 => h ((lg_cmp_ge x y).mpr h2))))
theorem q_lcmp_gt {x y : Int64} {off : Int} {tgt : Nat} (hexec : p.tables.exec = Jvm.exec) (hb : c.code = cc) (hdg : decode cc pc = .ok (.lcmp, 1)) (hdg2 : decode cc (pc + 1) = .ok (.ifCond .gt off, 3)) (ht : ((pc + 1 : Nat) : Int) + off = (tgt : Int)) (kt : y < x → W p l e R s m args below meth c H locs cells slots Q (F0 m tgt ls rest)) (kf : ¬ y < x → W p l e R s m args below meth c H locs cells slots Q (F0 m (pc + 1 + 3) ls rest)) : W p l e R s m args below meth c H locs cells slots Q (F0 m pc ls (.long y :: .long x :: rest)) := W.lcmp hexec hb hdg (lv_if_gt hexec hb hdg2 ht (fun h => kt ((lg_cmp_gt x y).mp h)) (fun h => kf (fun h2 => h ((lg_cmp_gt x y).mpr h2))))
theorem q_lcmp_le {x y : Int64} {off : Int} {tgt : Nat} (hexec : p.tables.exec = Jvm.exec) (hb : c.code = cc) (hdg : decode cc pc = .ok (.lcmp, 1)) (hdg2 : decode cc (pc + 1) = .ok (.ifCond .le off, 3)) (ht : ((pc + 1 : Nat) : Int) + off = (tgt : Int)) (kt : x ≤ y → W p l e R s m args below meth c H locs cells slots Q (F0 m tgt ls rest)) (kf : ¬ x ≤ y → W p l e R s m args below meth c H locs cells slots Q (F0 m (pc + 1 + 3) ls rest)) : W p l e R s m args below meth c H locs cells slots Q (F0 m pc ls (.long y :: .long x :: rest)) := W.lcmp hexec hb hdg (lv_if_le hexec hb hdg2 ht (fun h => kt ((lg_cmp_le x y).mp h)) (fun h => kf (fun h2 => h ((lg_cmp_le x y).mpr h2))))
end QB
/-- a reading body's end -/
theorem q_ret {s : State} {r : Value} {args : Array Value} : ∀ t : State, t.heap = s.heap → s.WarmedH t.vm → k2_QcV r args s (.returned (some r)) t := fun _ ht _ => ⟨rfl, ht⟩
end
section
/-! Writing methods: the same cells behind them, with other contents. -/
/-- the addresses of a world -/
def q_in (ws : va_W) : Nat → Prop := fun a => ∃ (k : Nat) (e : va_E), ws[k]? = some (a, e)
def q_Pm (D : va_G) (av : List Value) (ws : va_W) (tys : List (ClassId × FieldType)) : Array Value → State → Prop := va_Pc av (fun U => va_P D vwCl ws U.heap ∧ va_K D vwCl tys U ∧ va_D (fun _ => True) ws)
def q_Qm (D : va_G) (A : Nat → Prop) (rv : Option Value) (ws : va_W) : Array Value → State → Outcome → State → Prop := fun _ st o t => o = .returned rv ∧ va_P D vwCl ws t.heap ∧ va_F A st t
theorem q_inD {A : Nat → Prop} {ws : va_W} (h : va_D A ws) : va_D (q_in ws) ws := ⟨h.1, fun k q hk => ⟨k, q.2, hk⟩⟩
/-- cells put at their places -/
def q_put : va_W → List Nat → va_W → va_W
  | ws, i :: is, w :: wc => q_put (ws.set i w) is wc
  | ws, _, _ => ws
theorem q_put_get : ∀ (is : List Nat) (ws wc : va_W) (k : Nat) (q : Nat × va_E), (q_put ws is wc)[k]? = some q → (∃ j : Nat, is[j]? = some k ∧ wc[j]? = some q) ∨ (ws[k]? = some q ∧ ∀ j : Nat, j < wc.length → is[j]? ≠ some k)
  | [], ws, wc, k, q, h => Or.inr ⟨by simpa [q_put] using h, fun j _ => by simp⟩
  | i :: is, ws, [], k, q, h => Or.inr ⟨h, fun j hj => by simp at hj⟩
  | i :: is, ws, w :: wc, k, q, h => by
    rcases q_put_get is (ws.set i w) wc k q h with ⟨j, h1, h2⟩ | ⟨h1, h2⟩
    · exact Or.inl ⟨j + 1, by simpa using h1, by simpa using h2⟩
    · by_cases hk : k = i
      · subst hk
        have hl : k < ws.length := by
          have := (List.getElem?_eq_some_iff.mp h1).1
          simpa using this
        rw [List.getElem?_set_self hl] at h1
        exact Or.inl ⟨0, rfl, h1⟩
      · rw [List.getElem?_set_ne (Ne.symm hk)] at h1
        refine Or.inr ⟨h1, fun j hj => ?_⟩
        cases j with
        | zero => simp; exact fun h => hk h.symm
        | succ j =>
          have := h2 j (by simp at hj; omega)
          simpa using this
theorem q_at {ws wc : va_W} {is : List Nat} (hC : is.map (fun i => ws[i]?) = wc.map some) (j : Nat) (q : Nat × va_E) (hq : wc[j]? = some q) : ∃ i, is[j]? = some i ∧ ws[i]? = some q := by
  have h1 : (is.map (fun i => ws[i]?))[j]? = some (some q) := by rw [hC, List.getElem?_map, hq]; rfl
  rw [List.getElem?_map] at h1
  cases hi : is[j]? with
  | none => rw [hi] at h1; cases h1
  | some i => rw [hi] at h1; exact ⟨i, rfl, Option.some.inj h1⟩
theorem q_join {A : Nat → Prop} {D : va_G} {ws wc wc' : va_W} {H H1 : Heap} (hP : va_P D vwCl ws H) (hD : va_D A ws) (is : List Nat) (hC : is.map (fun i => ws[i]?) = wc.map some) (hadr : wc'.map (·.1) = wc.map (·.1))
    (hk : ∀ q : Nat, q < H.size → ¬ q_in wc q → H1[q]? = H[q]?) (hP1 : va_P D vwCl wc' H1) : va_P D vwCl (q_put ws is wc') H1 ∧ va_D A (q_put ws is wc') := by
  have hlen : wc'.length = wc.length := by simpa using congrArg List.length hadr
  have key : ∀ (k : Nat) (q : Nat × va_E), (q_put ws is wc')[k]? = some q → ∃ q0, ws[k]? = some q0 ∧ q0.1 = q.1 := by
    intro k q hq
    rcases q_put_get is ws wc' k q hq with ⟨j, h1, h2⟩ | ⟨h1, -⟩
    · have hj : j < wc.length := by rw [← hlen]; exact (List.getElem?_eq_some_iff.mp h2).1
      have h3 : wc[j]? = some wc[j] := List.getElem?_eq_getElem hj
      obtain ⟨i, h4, h5⟩ := q_at hC j _ h3
      have h6 : i = k := by rw [h1] at h4; exact (Option.some.inj h4).symm
      subst h6
      refine ⟨_, h5, ?_⟩
      have h7 := congrArg (fun l => l[j]?) hadr
      simp only [List.getElem?_map, h2, h3, Option.map_some] at h7
      exact (Option.some.inj h7).symm
    · exact ⟨q, h1, rfl⟩
  refine ⟨fun k q hq => ?_, fun i j x y hx hy hxy => ?_, fun k q hq => ?_⟩
  · rcases q_put_get is ws wc' k q hq with ⟨j, h1, h2⟩ | ⟨h1, h2⟩
    · exact hP1 j q h2
    · have h3 := hP k q h1
      refine h3.kept (hk q.1 h3.lt ?_)
      rintro ⟨j, e, he⟩
      obtain ⟨i, h4, h5⟩ := q_at hC j _ he
      have h6 := hD.1 k i q (q.1, e) h1 h5 rfl
      subst h6
      exact h2 j (by rw [hlen]; exact (List.getElem?_eq_some_iff.mp he).1) h4
  · obtain ⟨x0, a1, a2⟩ := key i x hx
    obtain ⟨y0, b1, b2⟩ := key j y hy
    exact hD.1 i j x0 y0 a1 b1 (a2.trans (hxy.trans b2.symm))
  · obtain ⟨q0, a1, a2⟩ := key k q hq
    rw [← a2]
    exact hD.2 k q0 a1
section QM
variable {p : Program} {l : Launch} {e : Env} {R : Room} {s : State} {m : MethodId} {args : Array Value} {below : List Frame} {meth : Method} {c : Code} {H : Heap} {locs : List Loc} {cells slots : Nat} {Q : State → Prop}
variable {cc : ByteArray} {pc : Nat} {ls : Array Slot} {rest st0 : List Value} {D : va_G} {A : Nat → Prop} {a : Nat} {tys tysc : List (ClassId × FieldType)} {ws wc wc' wsN : va_W} {H0 : Heap}
theorem q_blindm {av : List Value} : FrameBlind (q_Pm D av ws tys) := fun a U g mk q => by
  obtain ⟨q0, qP, qK, qD⟩ := q
  exact ⟨q0, qP, va_K.moved (u := U) (U := U.calling g mk a) (Vm.Alike.refl U.vm) qK, qD⟩
theorem q_sub {is : List Nat} (hC : is.map (fun i => ws[i]?) = wc.map some) : is.filterMap (fun i => ws[i]?) = wc := by
  have h : is.filterMap (fun i => ws[i]?) = (is.map (fun i => ws[i]?)).filterMap id := by rw [List.filterMap_map]; rfl
  rw [h, hC, List.filterMap_map]
  exact List.filterMap_some
theorem q_afterm {st₀ t T' : State} {L : List Loc} (h0 : st₀.heap = H) (e1 : T'.heap = t.heap) (hP : va_P D vwCl ws H) (hD : va_D A ws) (hS : va_S A H0 H locs) (is : List Nat) (hC : is.map (fun i => ws[i]?) = wc.map some) (hadr : wc'.map (·.1) = wc.map (·.1)) (hL : ∀ q ∈ L, q_in wc q.base) (hP1 : va_P D vwCl wc' t.heap) (hF : va_F (q_in wc) st₀ t) :
    va_P D vwCl (q_put ws is wc') T'.heap ∧ va_D A (q_put ws is wc') ∧ va_S A H0 T'.heap (locs ++ L) := by
  subst h0
  rw [e1]
  obtain ⟨h1, h2⟩ := q_join hP hD is hC hadr (fun q h1 h2 => hF.2 q h1 h2) hP1
  have hin : ∀ q, q_in wc q → A q := by
    rintro q ⟨k, e, hk⟩
    obtain ⟨i, -, h5⟩ := q_at hC k _ hk
    exact hD.2 i _ h5
  refine ⟨h1, h2, Nat.le_trans hS.1 hF.1, fun q h3 h4 => ?_, fun q hq => ?_⟩
  · rw [hF.2 q (Nat.lt_of_lt_of_le h3 hS.1) (fun h => h4 (hin q h))]
    exact hS.2.1 q h3 h4
  · rcases List.mem_append.mp hq with h | h
    · exact hS.2.2 q h
    · exact hin _ (hL q h)
/-- a call of a writing method -/
theorem q_mV {y : MethodName} {bytes : ByteArray} {maxL nL n index : Nat} {ret : Option FieldType} {wsy : List Cond} {rm : Room} {Ts : List Cond} {own C : String} {b : Addr} {As av : List Value} {rv : Option Value} {q : vw_C} {fs : List Value}
    (S : CallFix p m c cc nL s args Ts own) (hM : Met l y wsy rm (q_Pm D av wc tysc) (q_Qm D (q_in wc) rv wc') 0 0 (q_in wc)) (cw : CallW R s args own C index y bytes maxL ret wsy rm 0 0 n)
    (hK : va_K D vwCl tys s) (hP : va_P D vwCl ws H) (hD : va_D A ws) (hS : va_S A H0 H locs) (is js : List Nat) (ci q0 : Nat) (hC : is.map (fun i => ws[i]?) = wc.map some) (hnd : va_nd is = true) (hj : js.filterMap (fun i => tys[i]?) = tysc) (hav : .ref b :: As = av) (hc : vwCl[ci]? = some q) (hCn : q.1 = C) (he : ws[q0]? = some (b, .inr (ci, fs))) (hadr : wc'.map (·.1) = wc.map (·.1))
    (hn : As.length = n) (hl : ls.size = nL) (hst : st0 = As.reverse ++ .ref b :: rest) (hW : (rest.map fun v => v.category).sum ≤ 8) (hf : cells ≤ R.cells ∧ slots ≤ R.slots) (hdg : decode cc pc = .ok (.invokevirtual index, 3)) (hw : q_put ws is wc' = wsN)
    (kk : ∀ (H1 : Heap) (locs1 : List Loc), va_P D vwCl wsN H1 → va_D A wsN → va_S A H0 H1 locs1 → W p l e R s m args below meth c H1 locs1 cells slots Q (F0 m (pc + 3) ls (rv.toList ++ rest))) : W p l e R s m args below meth c H locs cells slots Q (F0 m pc ls st0) := by
  subst hav
  subst hCn
  subst hw
  intro T hT X
  have hp : PreV s H q.1 b (q_Pm D (.ref b :: As) wc tysc) As := ⟨q_blindm, va_recv hK hP hc he, fun U hU hW => ⟨rfl, by rw [hU]; exact hP.sub is (q_sub hC), va_K.moved hW.alike (hK.sub js hj), (hD.sub is hnd hC).weaken (fun _ _ _ _ => trivial)⟩⟩
  obtain ⟨v, st₀, t, T', L, h0, X', hL, e1, ⟨hv, hP1, hF⟩, st⟩ := W.runV (locs := locs) S hM cw hp rfl hn hl hst (lv_room hW) hdg hf T hT X
  cases hv
  obtain ⟨a1, a2, a3⟩ := q_afterm h0 e1 hP hD hS is hC hadr hL hP1 hF
  obtain ⟨t2, b1, b2⟩ := kk T'.heap (locs ++ L) a1 a2 a3 T' rfl X'
  exact ⟨t2, st t2 b1, b2⟩
theorem q_mS {y : MethodName} {bytes : ByteArray} {maxL nL n index : Nat} {ret : Option FieldType} {wsy : List Cond} {rm : Room} {Ts : List Cond} {own : String} {As av : List Value} {rv : Option Value}
    (S : CallFix p m c cc nL s args Ts own) (hM : Met l y wsy rm (q_Pm D av wc tysc) (q_Qm D (q_in wc) rv wc') 0 0 (q_in wc)) (cw : CallB R s args own index y bytes maxL ret wsy rm 0 0 n ∧ (Cond.static y).before args s = true)
    (hK : va_K D vwCl tys s) (hP : va_P D vwCl ws H) (hD : va_D A ws) (hS : va_S A H0 H locs) (is js : List Nat) (hC : is.map (fun i => ws[i]?) = wc.map some) (hnd : va_nd is = true) (hj : js.filterMap (fun i => tys[i]?) = tysc) (hav : As = av) (hadr : wc'.map (·.1) = wc.map (·.1))
    (hn : As.length = n) (hl : ls.size = nL) (hst : st0 = As.reverse ++ rest) (hW : (rest.map fun v => v.category).sum ≤ 8) (hf : cells ≤ R.cells ∧ slots ≤ R.slots) (hdg : decode cc pc = .ok (.invokestatic index, 3)) (hw : q_put ws is wc' = wsN)
    (kk : ∀ (H1 : Heap) (locs1 : List Loc), va_P D vwCl wsN H1 → va_D A wsN → va_S A H0 H1 locs1 → W p l e R s m args below meth c H1 locs1 cells slots Q (F0 m (pc + 3) ls (rv.toList ++ rest))) : W p l e R s m args below meth c H locs cells slots Q (F0 m pc ls st0) := by
  subst hav
  subst hw
  intro T hT X
  have hp : PreS s H (q_Pm D As wc tysc) As := ⟨q_blindm, fun U hU hW => ⟨rfl, by rw [hU]; exact hP.sub is (q_sub hC), va_K.moved hW.alike (hK.sub js hj), (hD.sub is hnd hC).weaken (fun _ _ _ _ => trivial)⟩⟩
  obtain ⟨v, st₀, t, T', L, h0, X', hL, e1, ⟨hv, hP1, hF⟩, st⟩ := W.runS (locs := locs) S hM cw hp rfl hn hl hst (lv_room hW) hdg hf T hT X
  cases hv
  obtain ⟨a1, a2, a3⟩ := q_afterm h0 e1 hP hD hS is hC hadr hL hP1 hF
  obtain ⟨t2, b1, b2⟩ := kk T'.heap (locs ++ L) a1 a2 a3 T' rfl X'
  exact ⟨t2, st t2 b1, b2⟩
end QM
/-- a writing body's end -/
theorem q_retm {s : State} {D : va_G} {A : Nat → Prop} {H : Heap} {locs : List Loc} {rv : Option Value} {ws : va_W} {args : Array Value} (hP : va_P D vwCl ws H) (hS : va_S A s.heap H locs) : ∀ t : State, t.heap = H → s.WarmedH t.vm → q_Qm D A rv ws args s (.returned rv) t := fun t ht _ => ⟨rfl, by rw [ht]; exact hP, hS.F ht⟩
theorem updN_lt {g : Nat → Nat} {k v N : Nat} (h : ∀ j, g j < N) (hv : v < N) : ∀ j, updN g k v j < N := fun j => by
  unfold updN
  split
  · exact hv
  · exact h j
end
section
/-! Methods that throw: what they want of the start; a throw; a callee that throws. -/
def q_strs : List (Nat × String) := [(129, "x and y are from -400 to 400"), (39, "there is a site at the place"), (50, "there are 20 sites"), (131, "no such site"), (63, "another site is there"), (72, "what is 0 or 1"), (135, "no such cell"), (140, "no such i"), (103, "what is 0, 1 or 2"), (124, "there is no site")]
abbrev q_up : List String := ["java/lang/RuntimeException", "java/lang/Exception"]
abbrev q_IA : String := "java/lang/IllegalArgumentException"
abbrev q_IS : String := "java/lang/IllegalStateException"
abbrev q_NE : String := "java/util/NoSuchElementException"
abbrev q_IO : String := "java/lang/IndexOutOfBoundsException"
def q_exs : List String := [q_IA, q_IS, q_NE, q_IO]
def q_E (A : Nat → Prop) (U : State) (H : Heap) : Prop :=
  (vx_Zq Bundle.tN "UNASSIGNED_STACK" Bundle.steD A U H ∧ vx_Zq Bundle.tN "SUPPRESSED_SENTINEL" Bundle.listD A U H) ∧ (va_Nw (.declares (Bundle.initS "java/lang/RuntimeException")) U ∧ va_Nw (.declares (Bundle.initS "java/lang/Exception")) U ∧ va_Nw (.declares (Bundle.initS Bundle.tN)) U) ∧ (∀ X ∈ q_exs, va_Nw (.castable X X) U) ∧ ∀ q ∈ q_strs, ∃ sa, vk_R RX3 q.1 q.2 sa U
theorem q_E.same {A : Nat → Prop} {u U : State} {H : Heap} (hv : u.vm = U.vm) (h : q_E A u H) : q_E A U H := by
  obtain ⟨⟨h1, h2⟩, ⟨h3, h4, h5⟩, h6, h7⟩ := h
  have ha : u.vm.Alike U.vm := by rw [hv]; exact Vm.Alike.refl _
  exact ⟨⟨h1.moved ha, h2.moved ha⟩, ⟨va_Nw.same rfl hv h3, va_Nw.same rfl hv h4, va_Nw.same rfl hv h5⟩, fun X hX => va_Nw.same rfl hv (h6 X hX), fun q hq => by
    obtain ⟨sa, h⟩ := h7 q hq
    exact ⟨sa, vk_R.same hv.symm h⟩⟩
theorem q_E.at {A B : Nat → Prop} {s U : State} {H : Heap} {locs : List Loc} (h : q_E A s s.heap) (hW : s.WarmedH U.vm) (hU : U.heap = H) (hS : va_S A s.heap H locs) (hAB : ∀ q, B q → A q) : q_E B U U.heap := by
  obtain ⟨⟨h1, h2⟩, ⟨h3, h4, h5⟩, h6, h7⟩ := h
  have hk : ∀ a : Nat, a < s.heap.size → ¬ A a → U.heap[a]? = s.heap[a]? := fun a h8 h9 => by rw [hU]; exact hS.2.1 a h8 h9
  exact ⟨⟨((h1.kept hk).narrow hAB).moved hW.alike, ((h2.kept hk).narrow hAB).moved hW.alike⟩, ⟨va_Nw.warmD hW h3, va_Nw.warmD hW h4, va_Nw.warmD hW h5⟩, fun X hX => va_Nw.warmC hW (h6 X hX), fun q hq => by
    obtain ⟨sa, h⟩ := h7 q hq
    exact ⟨sa, vk_R.warm hW h⟩⟩
def q_Px (D : va_G) (av : List Value) (ws : va_W) (tys : List (ClassId × FieldType)) : Array Value → State → Prop := va_Pc av (fun U => va_P D vwCl ws U.heap ∧ va_K D vwCl tys U ∧ va_D (fun _ => True) ws ∧ q_E (q_in ws) U U.heap)
def q_XX (D : va_G) (A : Nat → Prop) (en : String) (ws : va_W) : String → State → State → Prop := fun E st t => E = en ∧ va_P D vwCl ws t.heap ∧ va_F A st t
def q_no : Array Value → State → Outcome → State → Prop := fun _ _ _ _ => False
section QX
variable {p : Program} {l : Launch} {e : Env} {R : Room} {s : State} {m : MethodId} {args : Array Value} {below : List Frame} {meth : Method} {c : Code} {H : Heap} {locs : List Loc} {cells slots : Nat} {Q : State → Prop}
variable {cc : ByteArray} {pc : Nat} {ls : Array Slot} {rest st0 : List Value} {D : va_G} {A : Nat → Prop} {a : Nat} {tys tysc : List (ClassId × FieldType)} {ws wc wc' wsN : va_W} {H0 : Heap}
theorem q_blindx {av : List Value} : FrameBlind (q_Px D av ws tys) := fun a U g mk q => by
  obtain ⟨q0, qP, qK, qD, qE⟩ := q
  exact ⟨q0, qP, va_K.moved (u := U) (U := U.calling g mk a) (Vm.Alike.refl U.vm) qK, qD, q_E.same (u := U) (U := U.calling g mk a) rfl qE⟩
theorem q_inA {is : List Nat} (hD : va_D A ws) (hC : is.map (fun i => ws[i]?) = wc.map some) : ∀ q, q_in wc q → A q := by
  rintro q ⟨k, e, hk⟩
  obtain ⟨i, -, h5⟩ := q_at hC k _ hk
  exact hD.2 i _ h5
/-- 'throw new X("text")' -/
theorem q_throw {own cls text : String} {ik is ic : Nat} {ws' : va_W} (hexec : p.tables.exec = Jvm.exec) (hb : c.code = cc) (hl : l.stackTraces = false) (hown : s.vm.findClass RX3 = some m.cls) (hcls : Bundle.fit cls = true) (hX : cls ∈ q_exs) (htx : (is, text) ∈ q_strs) {Ts : List Cond} (hts : ∀ w ∈ Ts, w.before args s = true)
    (hk : Cond.classLink RX3 ik cls ∈ Ts) (hini : Cond.initialized cls ∈ Ts) (hgd : ∀ w ∈ (vx_atS RX3 ic cls q_up).filter goodWord, w ∈ Ts) (hng : ∀ w ∈ (vx_atS RX3 ic cls q_up).filter (fun w => !goodWord w), w ∈ [Cond.castable cls cls, Cond.declares (Bundle.initS "java/lang/RuntimeException"), Cond.declares (Bundle.initS "java/lang/Exception"), Cond.declares (Bundle.initS Bundle.tN)])
    (hgood : ∀ w ∈ Cond.classLink RX3 ik cls :: Cond.initialized cls :: vx_atS RX3 ic cls q_up, vx_ot w = true) (hE : q_E A s s.heap) (hP : va_P D vwCl ws' H) (hS : va_S A s.heap H locs) (hsize : ls.size = c.maxLocals)
    (d0 : decode cc pc = .ok (.new ik, 3)) (d3 : decode cc (pc + 3) = .ok (.dup, 1)) (d4 : decode cc (pc + 4) = .ok (.ldc is, 2)) (d6 : decode cc (pc + 6) = .ok (.invokespecial ic, 3)) (d9 : decode cc (pc + 9) = .ok (.athrow, 1))
    (hout : ∀ x ∈ c.exceptionTable.toList, False) (hRframes : 6 ≤ R.frames) (hRlocals : (rest.map fun v => v.category).sum + 82 ≤ R.locals) (hRcells : 1 ≤ R.cells) (hRslots : 6 ≤ R.slots) (hlocks : meth.locks = false) :
    W p l e R s m args below meth c H locs 0 0 (vx_MQ below q_no (q_XX D A cls ws') args s 1 6 A) (F0 m pc ls rest) := by
  obtain ⟨⟨h1, h2⟩, ⟨h3, h4, h5⟩, h6, h7⟩ := hE
  obtain ⟨sa, hsa⟩ := h7 _ htx
  have hat : ∀ w ∈ vx_atS RX3 ic cls q_up, w.before args s = true := vx_hat (fun w hw => hts w (hgd w hw)) hng (vx_c (va_Nw.use rfl (h6 cls hX)) (vx_c (va_Nw.use rfl h3) (vx_c (va_Nw.use rfl h4) (vx_c (va_Nw.use rfl h5) vx_n))))
  refine vx_throwS (sa := sa) hexec hb hl hown hcls (by decide +kernel) (hts _ hk) (hts _ hini) hsa hat hgood h1 h2 hS hsize d0 d3 d4 d6 d9 (fun x hx => (hout x hx).elim) (by show 2 + 3 < R.frames; omega) (by show _ + (13 * (2 + 1) + 43) ≤ R.locals; omega) (by omega) (by omega) hlocks (fun t ha hz hk => ⟨rfl, hP.kept (fun k q hq => hk q.1 ((hP k q hq).lt)), Nat.le_trans hS.1 hz, fun q h8 h9 => by rw [hk q (Nat.lt_of_lt_of_le h8 hS.1)]; exact hS.2.1 q h8 h9⟩) hS.2.2 (Nat.le_refl _) (Nat.le_refl _)
/-- a callee that throws: what is behind it -/
theorem q_tV {y : MethodName} {bytes : ByteArray} {maxL nL n index : Nat} {ret : Option FieldType} {wsy : List Cond} {rm : Room} {Ts : List Cond} {own C en : String} {b : Addr} {As av : List Value} {q : vw_C} {fs : List Value}
    (S : CallFix p m c cc nL s args Ts own) (hM : vx_Met l y wsy rm (q_Px D av wc tysc) q_no (q_XX D (q_in wc) en wc') 1 6 (q_in wc)) (cw : CallW R s args own C index y bytes maxL ret wsy rm 1 6 n)
    (hE : q_E A s s.heap) (hK : va_K D vwCl tys s) (hP : va_P D vwCl ws H) (hD : va_D A ws) (hS : va_S A s.heap H locs) (is js : List Nat) (ci q0 : Nat) (hC : is.map (fun i => ws[i]?) = wc.map some) (hnd : va_nd is = true) (hj : js.filterMap (fun i => tys[i]?) = tysc) (hav : .ref b :: As = av) (hc : vwCl[ci]? = some q) (hCn : q.1 = C) (he : ws[q0]? = some (b, .inr (ci, fs))) (hadr : wc'.map (·.1) = wc.map (·.1))
    (hn : As.length = n) (hl : ls.size = nL) (hst : st0 = As.reverse ++ .ref b :: rest) (hW : (rest.map fun v => v.category).sum ≤ 8) (hf : cells + 1 ≤ R.cells ∧ slots + 6 ≤ R.slots) (hdg : decode cc pc = .ok (.invokevirtual index, 3)) (hw : q_put ws is wc' = wsN)
    (kk : ∀ (H1 : Heap) (locs1 : List Loc) (q9 : Addr) (ce : Cell), va_P D vwCl wsN H1 → va_D A wsN → va_S A s.heap H1 locs1 → H1[q9]? = some ce → ce.vm = .none → s.vm.findClass en = some ce.cls → vx_W p l e R s m args below meth c H1 locs1 (cells + 1) (slots + 6) Q (F0 m pc ls rest) q9) : W p l e R s m args below meth c H locs cells slots Q (F0 m pc ls st0) := by
  subst hav
  subst hCn
  subst hw
  intro T hT X
  have hp : PreV s H q.1 b (q_Px D (.ref b :: As) wc tysc) As := ⟨q_blindx, va_recv hK hP hc he, fun U hU hW => ⟨rfl, by rw [hU]; exact hP.sub is (q_sub hC), va_K.moved hW.alike (hK.sub js hj), (hD.sub is hnd hC).weaken (fun _ _ _ _ => trivial), hE.at hW hU hS (q_inA hD hC)⟩⟩
  rcases vx_runV (locs := locs) S hM cw hp rfl hn hl hst (lv_room hW) hdg hf T hT X with ⟨v, st₀, t, T', L, h0, X', hL, e1, e2, hq, st⟩ | ⟨q9, st₀, t, T', L, E, ce, h0, X', hL, e1, e2, ⟨hEn, hP1, hF⟩, hce, hcv, hcl, st⟩
  · exact hq.elim
  · subst hEn
    obtain ⟨a1, a2, a3⟩ := q_afterm h0 e1 hP hD hS is hC hadr hL hP1 hF
    obtain ⟨t2, b1, b2⟩ := kk T'.heap (locs ++ L) q9 ce a1 a2 a3 (by rw [e1]; exact hce) hcv hcl T' rfl X'
    exact ⟨t2, st.trans b1, b2⟩
theorem q_tS {y : MethodName} {bytes : ByteArray} {maxL nL n index : Nat} {ret : Option FieldType} {wsy : List Cond} {rm : Room} {Ts : List Cond} {own en : String} {As av : List Value}
    (S : CallFix p m c cc nL s args Ts own) (hM : vx_Met l y wsy rm (q_Px D av wc tysc) q_no (q_XX D (q_in wc) en wc') 1 6 (q_in wc)) (cw : CallB R s args own index y bytes maxL ret wsy rm 1 6 n ∧ (Cond.static y).before args s = true)
    (hE : q_E A s s.heap) (hK : va_K D vwCl tys s) (hP : va_P D vwCl ws H) (hD : va_D A ws) (hS : va_S A s.heap H locs) (is js : List Nat) (hC : is.map (fun i => ws[i]?) = wc.map some) (hnd : va_nd is = true) (hj : js.filterMap (fun i => tys[i]?) = tysc) (hav : As = av) (hadr : wc'.map (·.1) = wc.map (·.1))
    (hn : As.length = n) (hl : ls.size = nL) (hst : st0 = As.reverse ++ rest) (hW : (rest.map fun v => v.category).sum ≤ 8) (hf : cells + 1 ≤ R.cells ∧ slots + 6 ≤ R.slots) (hdg : decode cc pc = .ok (.invokestatic index, 3)) (hw : q_put ws is wc' = wsN)
    (kk : ∀ (H1 : Heap) (locs1 : List Loc) (q9 : Addr) (ce : Cell), va_P D vwCl wsN H1 → va_D A wsN → va_S A s.heap H1 locs1 → H1[q9]? = some ce → ce.vm = .none → s.vm.findClass en = some ce.cls → vx_W p l e R s m args below meth c H1 locs1 (cells + 1) (slots + 6) Q (F0 m pc ls rest) q9) : W p l e R s m args below meth c H locs cells slots Q (F0 m pc ls st0) := by
  subst hav
  subst hw
  intro T hT X
  have hp : PreS s H (q_Px D As wc tysc) As := ⟨q_blindx, fun U hU hW => ⟨rfl, by rw [hU]; exact hP.sub is (q_sub hC), va_K.moved hW.alike (hK.sub js hj), (hD.sub is hnd hC).weaken (fun _ _ _ _ => trivial), hE.at hW hU hS (q_inA hD hC)⟩⟩
  rcases vx_runS (locs := locs) S hM cw hp rfl hn hl hst (lv_room hW) hdg hf T hT X with ⟨v, st₀, t, T', L, h0, X', hL, e1, e2, hq, st⟩ | ⟨q9, st₀, t, T', L, E, ce, h0, X', hL, e1, e2, ⟨hEn, hP1, hF⟩, hce, hcv, hcl, st⟩
  · exact hq.elim
  · subst hEn
    obtain ⟨a1, a2, a3⟩ := q_afterm h0 e1 hP hD hS is hC hadr hL hP1 hF
    obtain ⟨t2, b1, b2⟩ := kk T'.heap (locs ++ L) q9 ce a1 a2 a3 (by rw [e1]; exact hce) hcv hcl T' rfl X'
    exact ⟨t2, st.trans b1, b2⟩
/-- it goes on to the caller -/
theorem q_tout {en : String} {q9 : Addr} {ce : Cell} {ws' : va_W} (hP : va_P D vwCl ws' H) (hS : va_S A s.heap H locs) (hcell : H[q9]? = some ce) (hv : ce.vm = .none) (hcl : s.vm.findClass en = some ce.cls) (hout : ∀ x ∈ c.exceptionTable.toList, False) (hlocks : meth.locks = false) :
    vx_W p l e R s m args below meth c H locs (0 + 1) (0 + 6) (vx_MQ below q_no (q_XX D A en ws') args s 1 6 A) (F0 m pc ls rest) q9 :=
  vx_out (fun x hx => (hout x hx).elim) hlocks hcell hv hcl (fun t ht _ => ⟨rfl, by rw [ht]; exact hP, hS.F ht⟩) hS.2.2 (Nat.le_refl _) (Nat.le_refl _)
end QX
end
section
/-! 'throw new NoSuchElementException("text")'. -/
section QN
variable {p : Program} {l : Launch} {e : Env} {R : Room} {s : State} {m : MethodId} {args : Array Value} {below : List Frame} {meth : Method} {c : Code} {H : Heap} {locs : List Loc} {cells slots : Nat}
theorem q_d0 : decode q_six 0 = .ok (.aload_n 0, 1) := by decide +kernel
theorem q_d1 : decode q_six 1 = .ok (.aload_n 1, 1) := by decide +kernel
theorem q_d2 : decode q_six 2 = .ok (.invokespecial 13, 3) := by decide +kernel
theorem q_d5 : decode q_six 5 = .ok (.return_, 1) := by decide +kernel
theorem q_oN1 {w : Cond} (h : w ∈ Bundle.throwableAtoms) : w ∈ q_ownN RX3 137 := List.mem_append_left _ h
theorem q_oN2 {w : Cond} (h : w ∈ Bundle.throwableSAtoms) : w ∈ q_ownN RX3 137 := List.mem_append_right _ (List.mem_append_left _ h)
theorem q_oN3 {w : Cond} (h : w ∈ Bundle.passSAtoms "java/util/NoSuchElementException" "java/lang/RuntimeException" 13 q_six) : w ∈ q_ownN RX3 137 := List.mem_append_right _ (List.mem_append_right _ (List.mem_append_left _ h))
theorem q_oN4 {w : Cond} (h : w ∈ Bundle.chainSAtoms "java/lang/RuntimeException" ["java/lang/Exception"]) : w ∈ q_ownN RX3 137 := List.mem_append_right _ (List.mem_append_right _ (List.mem_append_right _ (List.mem_append_left _ h)))
/-- the constructor's whole way, and the throw behind it -/
theorem q_ctorN {T' : State} (X : Stand p l e R s m args below meth c T' [] cells slots) (hexec : p.tables.exec = Jvm.exec) (htr : e.platform.stackTraces = false) (hown : s.vm.findClass RX3 = some m.cls) (h : ∀ w ∈ q_ownN RX3 137, w.before args s = true)
    {a : Addr} {cX : ClassId} {kX : Class} (hfX : s.vm.findClass q_NE = some cX) (hkX : s.vm.classes[cX]? = some kX) (hcell : T'.heap[a]? = some (freshCell cX kX)) (hnew : s.heap.size ≤ a) {msg : Value} (hmsg : msg.isRef = true)
    {g : JFrame} (hg : g.method = m) (hsize : g.locals.size = c.maxLocals) (hlocked : g.locked = none) (hentered : g.entered = []) {rest : List Value} (hstack : g.stack = msg :: .ref a :: .ref a :: rest)
    (hd6 : decode c.code g.pc = .ok (.invokespecial 137, 3)) (hd9 : decode c.code (g.pc + 3) = .ok (.athrow, 1)) (hout : ∀ x ∈ c.exceptionTable.toList, covers x (g.pc + 3) = false)
    (hRframes : 5 < R.frames) (hRlocals : 2 * g.monitorRoom + ((Value.ref a :: rest).map fun v => v.category).sum + 81 ≤ R.locals) (hlocks : meth.locks = false) :
    ∃ U : State, Steps p.tables e below (T'.setTop g) U ∧ U.status = .running ∧ Ended U below (.threw a) ∧ s.WarmedH U.vm ∧ s.sameButNew ({ U with vm := s.vm } : State) [] cells slots ∧ ∃ ce, U.heap[a]? = some ce ∧ ce.vm = .none ∧ s.vm.findClass q_NE = some ce.cls := by
  have hpl : e.platform.magicAccessors = ({} : Platform).magicAccessors := by rw [X.admits.platform]
  have tail : ∀ w, w ∈ (Bundle.ownAtoms RX3 137 q_NE []).drop 33 → w.before args s = true := fun w hw => h w (List.mem_append_right _ (List.mem_append_right _ (List.mem_append_right _ (List.mem_append_right _ hw))))
  -- the bundle, and the four constructors one over another
  obtain ⟨T, Z0, L, -, Y⟩ := ThrowableC.of_atoms (args := args) (by rw [X.admits.platform]) (by rw [X.admits.platform]) hpl (fun w hw => h w (q_oN1 hw))
  obtain ⟨Z, M, LZ, LM, hnZ⟩ := Init0T.ofS_atoms (args := args) hpl L Y (fun w hw => h w (q_oN2 hw))
  obtain ⟨P1, L1, hP1, hup⟩ := PassC.ofS_atoms (args := args) (s := s) hpl (X := q_NE) (Y := "java/lang/RuntimeException") (index := 13) (bytes := q_six) (by decide) ⟨by decide, by decide⟩ q_d0 q_d1 q_d2 q_d5 (fun w hw => h w (q_oN3 hw))
  obtain ⟨P2, Ps, hlen, L2, hLs, hP2, hl2, hls⟩ := Bundle.chainS (args := args) hpl hnZ ["java/lang/Exception"] "java/lang/RuntimeException" (by decide +kernel) (by decide +kernel) (fun w hw => h w (q_oN4 hw))
  have hon : PassesOn (Z.m T.toThrowableT) ((P1 :: P2 :: Ps).map (·.toPassT)) := ⟨Option.some.inj (hup.symm.trans hP2), hl2, hls⟩
  have hfd : s.vm.findClass q_NE = some P1.m.cls := findClass_of_methodNamed hP1
  cases Option.some.inj (hfX.symm.trans hfd)
  obtain ⟨c1, k1, hc1, hk1, hord, -, -, hn6⟩ := Cond.instantiable_spec (show (Cond.instantiable q_NE 6).holds args s none s [] = true from tail _ (by decide +kernel))
  cases Option.some.inj (hc1.symm.trans hfd)
  cases Option.some.inj (hkX.symm.trans hk1)
  have sel : ∀ {y : MethodName} {my : MethodId}, (Cond.selects q_NE y y).before args s = true → y.cls ≠ "java/lang/invoke/MethodHandle" ∧ y.cls ≠ "java/lang/invoke/VarHandle" → s.methodFound? y.cls y.name y.desc = some my → s.methodNamed? y = some my → selectMethod e.platform s.vm P1.m.cls my = .method my := fun {y my} hw _ h1 h2 => by
    obtain ⟨c2, r2, m2, q1, q2, q3, q4, -⟩ := Cond.selects_spec hw
    cases Option.some.inj (q1.symm.trans hfd)
    cases Option.some.inj (q2.symm.trans h1)
    cases Option.some.inj (q3.symm.trans h2)
    rw [Launch.admits_selectMethod X.admits]
    exact q4
  have hsel0 := sel (tail (.selects q_NE Bundle.tFill0 Bundle.tFill0) (by decide +kernel)) ⟨by decide, by decide⟩ (State.methodFound?_of_named Y.fill0 (by decide)) Y.fill0
  have hselF := sel (tail (.selects q_NE Bundle.tFill Bundle.tFill) (by decide +kernel)) ⟨by decide, by decide⟩ (State.methodFound?_of_named Y.fill (by decide)) Y.fill
  -- the two statics
  obtain ⟨cS0, hcS0, hiss⟩ := Y.statics
  obtain ⟨u0, hu0⟩ := Cond.staticRefV Y.unassigned L.unassignedStatic L.statics hcS0 hiss (tail (.isRef (.static Bundle.tN "UNASSIGNED_STACK" Bundle.steD)) (by decide +kernel))
  obtain ⟨sen, hsen⟩ := Cond.staticRefV Y.sentinel L.sentinelStatic L.statics hcS0 hiss (tail (.isRef (.static Bundle.tN "SUPPRESSED_SENTINEL" Bundle.listD)) (by decide +kernel))
  obtain ⟨cS, hcS, heS, -, hkeep⟩ := X.same.2.2.2.2.2 T.aS cS0 hcS0
  have hkn : cS.vm ≠ .unknown := fun hu => by
    rw [heS] at hu
    rw [show cS0.vm = .unknown from hu] at hiss
    cases hiss
  have hneS : T.aS ≠ a := Nat.ne_of_lt (Nat.lt_of_lt_of_le (Array.getElem?_eq_some_iff.mp hcS0).1 hnew)
  -- the five fields
  obtain ⟨ci9, i9, fB, hk9, hg9, ha9, hsB, -, hnB, htB, hffB⟩ := Cond.ownField (t := .object "java/lang/Object") Y.found L.cls (by decide +kernel) (tail (.fieldLink Bundle.tN 198 Bundle.tN "backtrace" "Ljava/lang/Object;") (by decide +kernel)) (tail (.lays Bundle.tN Bundle.tN "backtrace" "Ljava/lang/Object;") (by decide +kernel)) e.platform hpl
  obtain ⟨iM, hffM⟩ := Y.msg
  obtain ⟨tyC, dC, hdC, hnC⟩ := Cond.laysAt hfd hk1 Y.cause (tail (.lays q_NE Bundle.tN "cause" "Ljava/lang/Throwable;") (by decide +kernel))
  obtain ⟨tyS, dS, hdS, hnS⟩ := Cond.laysAt hfd hk1 Y.stack (tail (.lays q_NE Bundle.tN "stackTrace" Bundle.steD) (by decide +kernel))
  obtain ⟨tyP, dP, hdP, hnP⟩ := Cond.laysAt hfd hk1 Y.supp (tail (.lays q_NE Bundle.tN "suppressedExceptions" Bundle.listD) (by decide +kernel))
  obtain ⟨tyM, dM, hdM, hnM⟩ := Cond.laysAt hfd hk1 hffM (tail (.lays q_NE Bundle.tN "detailMessage" "Ljava/lang/String;") (by decide +kernel))
  obtain ⟨tyB, dB, hdB, hnB2⟩ := Cond.laysAt hfd hk1 hffB (tail (.lays q_NE Bundle.tN "backtrace" "Ljava/lang/Object;") (by decide +kernel))
  have bC := Cond.laysApart hdB hdC hnB2 hnC (by rw [hnB, Y.causeName]; decide)
  have bS := Cond.laysApart hdB hdS hnB2 hnS (by rw [hnB, Y.stackName]; decide)
  have bP := Cond.laysApart hdB hdP hnB2 hnP (by rw [hnB, Y.suppName]; decide)
  have hskip : SkipFacts T e.platform s (fun u => u) u0 ((preparedCellV T.toThrowableT (freshCell P1.m.cls kX) a u0 sen).withEntry T'.cur) := by
    refine ⟨{ ci198 := ci9, i198 := i9, fBack := fB }, ⟨hk9, hg9, ha9, hsB⟩, ?_, fun _ _ => rfl⟩
    have hdef := fresh_default (c := P1.m.cls) tyB
    rw [htB] at hdef
    simpa [preparedCellV, Cell.setSlot, Cell.withEntry, Array.getElem?_setIfInBounds, bC, bS, bP, bC.symm, bS.symm, bP.symm, defaultValue] using hdef
  -- the walk
  obtain ⟨tm, _, _, _, v1, hn1, -, -, -, -, -, -, -, hW1, st1⟩ := Steps.initColdS (tb := p.tables) (e := e) (below := below) (s := s) (U := T') X.here hexec X.warmed hpl hown (t := Bundle.initS q_NE) rfl rfl ⟨by decide, by decide⟩ (tail (.methodLink RX3 137 (Bundle.initS q_NE)) (by decide +kernel)) (h (.instanceMethod (Bundle.initS q_NE)) (by decide +kernel)) (bytes := q_six) (maxL := 2) (h (.code (Bundle.initS q_NE) q_six 2 none) (by decide +kernel)) (f := g) hg (a := a) (msg := msg) (rest := .ref a :: rest) hstack hd6
  cases Option.some.inj (hn1.symm.trans hP1)
  obtain ⟨v2, X2, st2⟩ := (X.noted hW1).ctorMessageOffV hexec (g := { g with stack := .ref a :: rest }) hg hsize T L Z LZ M LM (P1 :: P2 :: Ps)
    (fun P hP => (List.mem_cons.mp hP).elim (fun e9 => by rw [e9]; exact L1) (fun hP => (List.mem_cons.mp hP).elim (fun e9 => by rw [e9]; exact L2) (hLs P))) hon (u0 := u0) (sen := sen) (self := a) hmsg (cell := freshCell P1.m.cls kX) (cellS := cS)
    hcell (fun _ => by simp) (by simp) rfl rfl hsel0 hselF hcS hneS hkn (by rw [hkeep _ (fun h9 => nomatch h9)]; exact hu0) (by rw [hkeep _ (fun h9 => nomatch h9)]; exact hsen)
    (Takes.of_laid hk1 hord tyC (by rw [Y.causeType]; rfl)) (Takes.of_laid hk1 hord tyS (by rw [Y.stackType]; exact fits_refV_array _ u0)) (Takes.of_laid hk1 hord tyP (by rw [Y.suppType]; exact fits_refV_object _ sen)) (Takes.of_laid hk1 hord tyM (by rw [Y.msgType]; exact fits_refV_object _ ⟨msg, hmsg⟩)) Y.objLocals hskip htr [] hd6
    (by simp only [List.length_cons, hlen, List.length_nil]; omega) (by simp only [List.length_cons, hlen, List.length_nil]; exact hRlocals)
  obtain ⟨hwalk, hrun, hended, hWU, hsame⟩ := X2.athrowLeaves hexec (g := { g with stack := .ref a :: rest, pc := g.pc + 3 }) hg hlocked hentered hout (a := a) (rest := rest) rfl hd9 hlocks
  have hlt : a < ((T'.setVm v1).setVm v2).heap.size := (Array.getElem?_eq_some_iff.mp hcell).1
  refine ⟨_, st1 _ (fun acts => by rw [doInvoke_state]; exact st2 _ hwalk), hrun, hended, hWU, hsame.weaken (fun y hy hl9 => ?_) (Nat.le_refl _) (Nat.le_refl _), _, heapAt_setCell_self (s := (T'.setVm v1).setVm v2) (plainBareV T.toThrowableT (freshCell P1.m.cls kX) a u0 sen msg) hlt, rfl, hfd⟩
  rw [List.nil_append] at hy
  have hb : y.base = a := by
    simp only [List.mem_cons, List.not_mem_nil, or_false] at hy
    rcases hy with rfl | rfl | rfl | rfl | rfl <;> rfl
  rw [hb] at hl9
  exact absurd hl9 (Nat.not_lt.mpr hnew)
variable {Q : State → Prop} {cc : ByteArray} {pc : Nat} {ls : Array Slot} {rest : List Value} {D : va_G} {A : Nat → Prop}
theorem q_throwN {text : String} {ik is : Nat} {ws' : va_W} (hexec : p.tables.exec = Jvm.exec) (hb : c.code = cc) (hl : l.stackTraces = false) (hown : s.vm.findClass RX3 = some m.cls) (htx : (is, text) ∈ q_strs) {Ts : List Cond} (hts : ∀ w ∈ Ts, w.before args s = true)
    (hk : Cond.classLink RX3 ik q_NE ∈ Ts) (hini : Cond.initialized q_NE ∈ Ts) (hgd : ∀ w ∈ (q_atN RX3 137).filter goodWord, w ∈ Ts) (hng : ∀ w ∈ (q_atN RX3 137).filter (fun w => !goodWord w), w ∈ [Cond.castable q_NE q_NE, Cond.declares (Bundle.initS "java/lang/RuntimeException"), Cond.declares (Bundle.initS "java/lang/Exception"), Cond.declares (Bundle.initS Bundle.tN)])
    (hgood : ∀ w ∈ Cond.classLink RX3 ik q_NE :: Cond.initialized q_NE :: q_atN RX3 137, vx_ot w = true) (hE : q_E A s s.heap) (hP : va_P D vwCl ws' H) (hS : va_S A s.heap H locs) (hsize : ls.size = c.maxLocals)
    (d0 : decode cc pc = .ok (.new ik, 3)) (d3 : decode cc (pc + 3) = .ok (.dup, 1)) (d4 : decode cc (pc + 4) = .ok (.ldc is, 2)) (d6 : decode cc (pc + 6) = .ok (.invokespecial 137, 3)) (d9 : decode cc (pc + 9) = .ok (.athrow, 1))
    (hout : ∀ x ∈ c.exceptionTable.toList, False) (hRframes : 6 ≤ R.frames) (hRlocals : (rest.map fun v => v.category).sum + 82 ≤ R.locals) (hRcells : 1 ≤ R.cells) (hRslots : 6 ≤ R.slots) (hlocks : meth.locks = false) :
    W p l e R s m args below meth c H locs 0 0 (vx_MQ below q_no (q_XX D A q_NE ws') args s 1 6 A) (F0 m pc ls rest) := by
  obtain ⟨⟨h1, h2⟩, ⟨h3, h4, h5⟩, h6, h7⟩ := hE
  obtain ⟨sa, hsa⟩ := h7 _ htx
  have hat : ∀ w ∈ q_atN RX3 137, w.before args s = true := vx_hat (fun w hw => hts w (hgd w hw)) hng (vx_c (va_Nw.use rfl (h6 q_NE (by decide))) (vx_c (va_Nw.use rfl h3) (vx_c (va_Nw.use rfl h4) (vx_c (va_Nw.use rfl h5) vx_n))))
  intro T hT X
  have htr : e.platform.stackTraces = false := (show e.platform.stackTraces = l.stackTraces by rw [X.admits.platform]).trans hl
  have Y := vx_rebase X (R' := { frames := R.frames, locals := R.locals, cells := 1, slots := 6 }) (Nat.le_refl _) (Nat.le_refl _) (by omega) (by omega)
  obtain ⟨s', hA⟩ : ∃ z, z = (T.setVm s.vm).setFrames (.invoking m args :: below) := ⟨_, rfl⟩
  rw [← hA] at Y
  have hvm : s'.vm = s.vm := by rw [hA]; rfl
  have hhp : s'.heap = H := by rw [hA]; exact hT
  have hW0 : s.WarmedH s'.vm := by rw [hvm]; exact State.WarmedH.refl s
  have old : ∀ w, w ∈ Cond.classLink RX3 ik q_NE :: Cond.initialized q_NE :: q_atN RX3 137 → w.before args s = true → w.before args s' = true := fun w hw h => vx_ot_at hW0 hvm.symm (hgood w hw) h
  have hU' : vx_Zq Bundle.tN "UNASSIGNED_STACK" Bundle.steD A s' s'.heap := by rw [hhp]; exact vx_Zq.moved hW0.alike (h1.kept hS.2.1)
  have hN' : vx_Zq Bundle.tN "SUPPRESSED_SENTINEL" Bundle.listD A s' s'.heap := by rw [hhp]; exact vx_Zq.moved hW0.alike (h2.kept hS.2.1)
  have h : ∀ w ∈ q_ownN RX3 137, w.before args s' = true := vx_own (fun w hw => old w (List.mem_cons_of_mem _ (List.mem_cons_of_mem _ hw)) (hat w hw)) (vx_isRefq hU'.1) (vx_isRefq hN'.1) hU'.2.word hN'.2.word
  have hown' : s'.vm.findClass RX3 = some m.cls := by rw [hvm]; exact hown
  obtain ⟨vm₁, cX, kX, hfX, hkX, -, -, X₁, st1⟩ := Y.newCold hexec (own := RX3) (C := q_NE) (index := ik) (n := 6) hown' (old _ List.mem_cons_self (hts _ hk)) (h _ (by decide +kernel)) (old _ (List.mem_cons_of_mem _ List.mem_cons_self) (hts _ hini)) (g := F0 m pc ls rest) rfl (by rw [hb]; exact d0) (Nat.le_refl _) (Nat.le_refl _)
  generalize hT1 : (T.setVm vm₁).pushCell { cls := cX, slots := kX.instanceTypes.map defaultValue, vm := .none } = T1 at X₁ st1
  have hcellA : T1.heap[T.heap.size]? = some (freshCell cX kX) := by rw [← hT1]; exact State.heap_pushCell_size _ _
  have d3' : decode c.code (pc + 3) = .ok (.dup, 1) := by rw [hb]; exact d3
  have d4' : decode c.code (pc + 4) = .ok (.ldc is, 2) := by rw [hb]; exact d4
  have hstr' : vk_R RX3 is text sa s' := vk_R.warm hW0 hsa
  have hcat : (Value.ref T.heap.size).category = 1 := rfl
  obtain ⟨U, hsteps, hrun, hend, hW, hsame, ce, hce, hcv, hcc⟩ := q_ctorN X₁ hexec htr hown' h hfX hkX hcellA (by rw [hhp, hT]; exact Nat.le_refl _) (msg := .ref sa) rfl
    (g := { method := m, pc := pc + 6, locals := ls, stack := .ref sa :: .ref T.heap.size :: .ref T.heap.size :: rest, locked := none }) rfl hsize rfl rfl (rest := rest) rfl (by rw [hb]; exact d6) (by rw [hb]; exact d9) (fun x hx => (hout x hx).elim) (by show 5 < R.frames; omega) (by simp only [List.map_cons, List.sum_cons, hcat]; omega) hlocks
  obtain ⟨f1, f2⟩ := vx_frame hsame
  rw [hhp] at f1 f2
  have hWs : s.WarmedH U.vm := State.WarmedH.trans hW0 hW
  have hcl : s.vm.findClass q_NE = some ce.cls := by rw [hvm] at hcc; exact hcc
  have hall : s.sameButNew ({ U with vm := s.vm } : State) locs 1 6 := by
    subst hA
    obtain ⟨e1, e2⟩ := hsame
    rw [State.setFrames_setFrames] at e1
    have g2 : (T.setVm s.vm).sameButNew ({ U with vm := s.vm } : State) [] (0 + 1) (0 + 6) := ⟨e1, e2⟩
    have g3 := X.same.trans g2
    rw [List.append_nil] at g3
    exact g3.mono (Nat.le_refl _) (Nat.le_refl _)
  refine ⟨U, ?_, .threw T.heap.size, hrun, hend, Or.inr ⟨T.heap.size, rfl, q_NE, ce, locs, ⟨rfl, hP.kept (fun k q hq => f2 q.1 ((hP k q hq).lt) (fun z hz => nomatch hz)), Nat.le_trans hS.1 f1, fun q h8 h9 => by rw [f2 q (Nat.lt_of_lt_of_le h8 hS.1) (fun z hz => nomatch hz)]; exact hS.2.1 q h8 h9⟩, hce, hcv, hcl, hWs, hall, hS.2.2⟩⟩
  refine st1 _ ?_
  show Steps p.tables e below (T1.setTop { method := m, pc := pc + 3, locals := ls, stack := .ref T.heap.size :: rest, locked := none }) _
  jvm_step X₁.here [X₁.here.top, hexec, d3', Value.category]
  exact X₁.ldcString hexec (own := RX3) (text := text) (index := is) (a := sa) hown' hstr'.1 hstr'.2 (g := { method := m, pc := pc + 4, locals := ls, stack := .ref T.heap.size :: .ref T.heap.size :: rest, locked := none }) rfl d4' _ hsteps
end QN
end
section
/-! A callee's throw, caught in a table whose rows all cover the place: the first row whose class takes the object. -/
section QC
theorem q_row {e : Env} {S : State} {f : JFrame} {a : Addr} {x : ExceptionTableEntry} {t : List ExceptionTableEntry} {k : ClassId} {ce : Cell} (hx : covers x f.pc = true) (h0 : ¬ x.catchType = 0) (hl : S.vm.ClassLinks e.platform f.method.cls x.catchType k) (hce : S.heap[a]? = some ce) (hob : ∀ j, ce.vm ≠ .statics j) (hk1 : ∃ z, S.vm.classes[ce.cls]? = some z) (hk2 : ∃ z, S.vm.classes[k]? = some z) (Q : Handler → Pre) (E : CtlPost) (d : Bool) (acts : List Action) :
    Sem.wp (findHandler.go f a (x :: t)) Q E e d acts S ↔ if S.vm.assignable ce.cls k = true then Q (.found x.handlerPc) d acts (S.setVm (S.vm.noted f.method.cls x.catchType (.cls k))) else Sem.wp (findHandler.go f a t) Q E e d acts (S.setVm (S.vm.noted f.method.cls x.catchType (.cls k))) := by
  have hal : S.vm.Alike (S.vm.noted f.method.cls x.catchType (.cls k)) := (Vm.Alike.refl S.vm).noted _ _ _
  obtain ⟨z1, hz1⟩ := hk1
  obtain ⟨z2, hz2⟩ := hk2
  obtain ⟨w1, hw1, -⟩ := hal.2.2 _ _ hz1
  obtain ⟨w2, hw2, -⟩ := hal.2.2 _ _ hz2
  have has : (S.vm.noted f.method.cls x.catchType (.cls k)).assignable ce.cls k = S.vm.assignable ce.cls k := hal.assignable _ _
  obtain ⟨g1, g2⟩ := (resolveClass_links e.toSetting hl).op (op := VmOp.resolveClass f.method.cls x.catchType) rfl
  simp only [covers] at hx
  cases hb : S.vm.assignable ce.cls k with
  | true => simp [findHandler.go, hx, h0, g1, g2, hce, hob, hw1, hw2, has, hb, VmOp.dirties, VmOp.acts]
  | false => simp [findHandler.go, hx, h0, g1, g2, hce, hob, hw1, hw2, has, hb, VmOp.dirties, VmOp.acts]
/-- the rows of a table, one behind another, with the row that takes the thrown object's class -/
def q_rows (pl : Platform) (s : State) (own : ClassId) (pc : Nat) (thrown : ClassId) : List ExceptionTableEntry → Nat → Prop
  | [], _ => False
  | x :: t, h => covers x pc = true ∧ ¬ x.catchType = 0 ∧ ∃ k, s.vm.ClassLinks pl own x.catchType k ∧ ((s.vm.assignable thrown k = true ∧ h = x.handlerPc) ∨ (s.vm.assignable thrown k = false ∧ q_rows pl s own pc thrown t h))
theorem q_search {e : Env} {s : State} {f : JFrame} {a : Addr} {ce : Cell} (hob : ∀ j, ce.vm ≠ .statics j) (hk : ∃ z, s.vm.classes[ce.cls]? = some z) {h : Nat} : ∀ (t : List ExceptionTableEntry) (S : State), s.WarmedH S.vm → S.heap[a]? = some ce → q_rows e.platform s f.method.cls f.pc ce.cls t h → ∃ v, s.WarmedH v ∧ ∀ (Q : Handler → Pre) (E : CtlPost) (d : Bool) (acts : List Action), Sem.wp (findHandler.go f a t) Q E e d acts S ↔ Q (.found h) d acts (S.setVm v) := by
  intro t
  induction t with
  | nil => intro S _ _ hr; exact hr.elim
  | cons x t ih =>
    intro S hW hce hr
    obtain ⟨hx, h0, k, hl, hcase⟩ := hr
    obtain ⟨dk, _, _, kt, hdk, _, _, _, _, hkt, _, hop⟩ := hl.here
    obtain ⟨z, hz⟩ := hk
    obtain ⟨z', hz', -⟩ := hW.alike.2.2 _ _ hz
    obtain ⟨kt', hkt', -⟩ := hW.alike.2.2 _ _ hkt
    have hW2 : s.WarmedH (S.vm.noted f.method.cls x.catchType (.cls k)) := hW.noted hdk hop (State.rightAt_cls hl)
    have has : S.vm.assignable ce.cls k = s.vm.assignable ce.cls k := hW.alike.assignable _ _
    have hrow := fun Q E d acts => q_row (t := t) hx h0 (hW.classLinks hl) hce hob ⟨z', hz'⟩ ⟨kt', hkt'⟩ Q E d acts
    rcases hcase with ⟨c1, rfl⟩ | ⟨c1, c2⟩
    · refine ⟨_, hW2, fun Q E d acts => ?_⟩
      rw [hrow Q E d acts, has, if_pos c1]
    · obtain ⟨v, hv, hq⟩ := ih (S.setVm (S.vm.noted f.method.cls x.catchType (.cls k))) hW2 hce c2
      refine ⟨v, hv, fun Q E d acts => ?_⟩
      rw [hrow Q E d acts, has, if_neg (by rw [c1]; exact fun h9 => Bool.noConfusion h9), hq Q E d acts]
      exact Iff.rfl
variable {p : Program} {l : Launch} {e : Env} {R : Room} {s : State} {m : MethodId} {args : Array Value} {below : List Frame} {meth : Method} {c : Code} {H : Heap} {locs : List Loc} {cells slots : Nat} {Q : State → Prop}
theorem q_catch {pc h : Nat} {ls : Array Slot} {rest : List Value} {E : String} {ce : Cell} {q : Addr} (hrows : q_rows e.platform s m.cls pc ce.cls c.exceptionTable.toList h) (hcell : H[q]? = some ce) (hv : ce.vm = .none) (hcl : s.vm.findClass E = some ce.cls)
    (kk : W p l e R s m args below meth c H locs cells slots Q (F0 m h ls [.ref q])) : vx_W p l e R s m args below meth c H locs cells slots Q (F0 m pc ls rest) q := by
  intro T hT X
  obtain ⟨z, hz, -⟩ := Vm.findClass_spec hcl
  obtain ⟨v, hW, hq⟩ := q_search (e := e) (s := s) (f := F0 m pc ls rest) (a := q) (ce := ce) (by rw [hv]; intro j h9; cases h9) ⟨z, hz⟩ c.exceptionTable.toList ((T.setTop (F0 m pc ls rest)).pushFrame (.throwing q)) X.warmed (by rw [← hT] at hcell; exact hcell) hrows
  have hfind : ∀ (Q : Handler → Pre) (E : CtlPost) (d : Bool) (acts : List Action), Sem.wp (findHandler (F0 m pc ls rest) q) Q E e d acts ((T.setTop (F0 m pc ls rest)).pushFrame (.throwing q)) ↔ Q (.found h) d acts (((T.setTop (F0 m pc ls rest)).pushFrame (.throwing q)).setVm v) := fun Q E d acts => by
    rw [W.findHandler_eq (meth := meth) (code := c) X.method' X.code]
    exact hq Q E d acts
  obtain ⟨t, b1, b2⟩ := kk (T.setVm v) hT (X.noted hW)
  refine ⟨t, ?_, b2⟩
  have hh : At T (F0 m pc ls rest).method c below := X.here
  obtain ⟨hgo, hwi⟩ := hh.throwing q
  refine Steps.head hgo hwi ?_
  obtain ⟨g0, hfr⟩ := X.frames_eq
  have hfr' : (T.setVm v).frames = .java g0 :: below := hfr
  have hstep : (stepThrowing e ((T.setTop (F0 m pc ls rest)).pushFrame (.throwing q)) q (.java (F0 m pc ls rest) :: T.frames.tail)).Is ((((T.setTop (F0 m pc ls rest)).pushFrame (.throwing q)).setVm v).setFrames (.java (F0 m h ls [.ref q]) :: T.frames.tail)) [] := by
    simp only [stepThrowing, searchFrame, vmDo]
    generalize hr : Sem.go _ e false [] ((T.setTop (F0 m pc ls rest)).pushFrame (.throwing q)) = res
    obtain ⟨as, rfl, ha⟩ := Sem.eq_ok_of hr (a := Handler.found h) (s' := ((T.setTop (F0 m pc ls rest)).pushFrame (.throwing q)).setVm v) (acts' := []) (by simp [hfind _ _ _ _])
    exact ⟨rfl, ha⟩
  rw [stepThread_throwing (frames_entered hh.top _), hstep.1]
  have e1 : (((T.setTop (F0 m pc ls rest)).pushFrame (.throwing q)).setVm v).setFrames (.java (F0 m h ls [.ref q]) :: T.frames.tail) = (T.setVm v).setTop (F0 m h ls [.ref q]) := by
    rw [State.setTop_of_frames _ hfr', hfr, List.tail_cons, State.pushFrame, State.setTop_of_frames _ hfr]
    show (((T.setFrames _).setFrames _).setVm v).setFrames _ = _
    rw [State.setFrames_setFrames]
    show ((T.setVm v).setFrames _).setFrames _ = _
    rw [State.setFrames_setFrames]
  rw [e1]
  exact b1
end QC
end
