/-! The law's loop and its start (the ends and the claim out of the kit's skeleton). -/
def lw_P (b : Addr) (xs : List Int32) (args : Array Value) (s : State) : Prop := args = #[.ref b] ∧ s.IntsAt b xs ∧ xs.length ≤ 2048 ∧ (Jvm.Cond.and given_1 narrow_1).before args s = true
/-- the law's own end, with 1 on the stack, nothing written that was there before, its room as the claim has it -/
theorem lw_ret {p : Program} {l : Launch} {e : Env} {s : State} {m : MethodId} {below : List Frame} {meth : Method} {c : Code} {b : Nat} (hx : p.tables.exec = Jvm.exec) (hb : c.code = code) (hr : meth.sig.returnType = ret) (hlocks : meth.locks = false) {pc : Nat} {H : Heap} {ls : Array Slot} (hdg : decode code pc = .ok (.ireturn, 1)) : W p l e room_1 s m #[Value.ref b] below meth c H [] 1052 10264 (lw_Z below #[Value.ref b] s) (F0 m pc ls [.int 1]) := by
  intro T hT X
  obtain ⟨fs, hret, hrun, hended, hW, hframe⟩ := X.leave (v := some (.int 1)) (hlocks := hlocks) (fun h => by rw [hr] at h; cases h)
  have hmeth' : T.vm.method? m = some meth := X.method'
  refine ⟨T.setFrames fs, ?_, .returned (some (.int 1)), hrun, hended, rfl, ⟨_, rfl⟩, hW, hframe⟩
  jvm_step X.here [X.here.top, hx, hb, hdg, hmeth', hr, ret, narrow_b1]
  (try refine ⟨rfl, ?_⟩); (try refine ⟨rfl, ?_⟩)
  first | (intro acts; rw [hret _ acts rfl rfl rfl]) | rw [hret _ _ rfl rfl rfl]
  exact Steps.refl _
/-- what holds at the law's entry: the machine, the code, the tables' words (any of lw_tbl by 'hts w (by decide +kernel)'), the script of L ints xs at the cell b, what the Statement gives of the start (any of its parts by flat_of_before) -/
def lw_At (p : Program) (s : State) (m : MethodId) (meth : Method) (c : Code) (b L : Nat) (xs : Nat → Int32) : Prop :=
  p.tables.exec = Jvm.exec ∧ c.code = code ∧ meth.sig.returnType = ret ∧ c.maxLocals = 8 ∧ s.vm.findClass R_law = some m.cls ∧ (∀ w ∈ lw_tbl, w.before #[Value.ref b] s = true) ∧ va_X b L xs s s.heap ∧ b < s.heap.size ∧ meth.locks = false ∧ (Jvm.Cond.and given_1 narrow_1).before #[Value.ref b] s = true
theorem q_l4 {L j : Nat} (hL : L ≤ 2048) (hj : j ≤ 512) (h : ¬ (Int32.ofNat L - 4 < nI (4 * j))) : 4 * j + 4 ≤ L := by
  have e1 : w_i (Int32.ofNat L) (L : Int) 2048 := ⟨nI_toInt (by omega), by omega⟩
  have e2 : w_i (4 : Int32) 4 4 := ⟨rfl, by decide⟩
  have e3 := w_i_sub e1 e2 (by decide)
  rw [Int32.lt_iff_toInt_lt, e3.1, nI_toInt (by omega)] at h
  omega
theorem q_and15 (x : Int32) : ∃ k, k < 16 ∧ x &&& 15 = nI k := by
  refine ⟨x.toBitVec.toNat % 16, Nat.mod_lt _ (by decide), ?_⟩
  apply Int32.toBitVec_inj.mp
  apply BitVec.eq_of_toNat_eq
  rw [Int32.toBitVec_and, BitVec.toNat_and]
  show x.toBitVec.toNat &&& 15 = (BitVec.ofNat 32 (x.toBitVec.toNat % 16)).toNat
  rw [BitVec.toNat_ofNat, Nat.and_two_pow_sub_one_eq_mod x.toBitVec.toNat 4, Nat.mod_eq_of_lt (a := x.toBitVec.toNat % 16)]
  have := Nat.mod_lt x.toBitVec.toNat (show 0 < 16 by decide)
  omega
set_option maxHeartbeats 4000000 in
set_option maxRecDepth 100000 in
theorem lw_step {p : Program} {l : Launch} {e : Env} {s : State} {m : MethodId} {below : List Frame} {meth : Method} {c : Code} {A : Nat → Prop} {b L : Nat} {xs : Nat → Int32} {dC : Nat → ClassId} {dI : Nat → Nat → Nat} {cI cJ : ClassId} (C : lw_Cx p l s m meth c A b L xs dC dI cI cJ) (hr : meth.sig.returnType = ret) (hlocks : meth.locks = false) (hAs : ∀ q, A q → s.heap.size ≤ q) {c0 m0 g0 s0 xa ya ra sa oa ma o0 xb yb za ua wa va oj : Nat} {x y : Nat → Int32} {n : Nat} {st : Int32} {z : (Int32 × Int32 × Int64 × Int64 × Int64) × (Nat → Nat) × (Nat → Nat) × (Nat → Int32) × Nat} {rm : Nat → Int32} {rc : Nat} {th md : Int32} {sz rd : Nat → Nat} {q : Nat} {od hu : Nat → Nat} {hz : Nat} {ou : Nat → Int64} (hLI : v_LI x y n st z rm rc md sz rd q od hu hz) (j : Nat) (hj : j ≤ 512) {H : Heap} {locs : List Loc} {ls : Array Slot} (hP : va_P (dC, dI) vwCl (lw_W c0 m0 g0 s0 xa ya ra sa oa ma o0 xb yb za ua wa va oj cI cJ x y n st z rm rc th md sz rd q od hu hz ou) H) (hD : va_D A (lw_W c0 m0 g0 s0 xa ya ra sa oa ma o0 xb yb za ua wa va oj cI cJ x y n st z rm rc th md sz rd q od hu hz ou)) (hS : va_S A s.heap H locs) (hl : lv_has ls 8 [(4, .int (nI (4 * j))), (3, .ref oj), (2, .ref o0), (1, .ref c0), (0, .ref b)]) (kk : 4 * j + 4 ≤ L → lw_K p l e s m below meth c A b dC dI cI cJ c0 m0 g0 s0 xa ya ra sa oa ma o0 xb yb za ua wa va oj j (18 + j + 1) (2012 + 6 * j + 6)) : W p l e room_1 s m #[Value.ref b] below meth c H locs (18 + j) (2012 + 6 * j) (lw_Z below #[Value.ref b] s) (F0 m 23 ls []) := by
  obtain ⟨hst9, hx, hb, hml, hown, hts, hX, hbl, hbA, hK, hE, hNc, hL⟩ := id C
  refine lv_iload hx hb dL_law_23 (lv_at hl 0 rfl) ?_
  refine lv_aload_n hx hb dL_law_25 rfl (lv_at hl 4 rfl) ?_
  refine va_slen hx hb hX hbl hbA hS dL_law_26 ?_
  refine lv_iconst (v := 4) hx hb dL_law_27 (by decide) ?_
  refine lv_isub hx hb dL_law_28 ?_
  refine lv_icmp_gt (tgt := 757) hx hb dL_law_29 (by decide) (fun c29 => ?_) (fun c29 => ?_)
  · refine va_forget (fun q hq => hAs _ (hS.2.2 q hq)) ?_
    refine W.widen (k := 1052) (n := 10264) (by omega) (by omega) ?_
    refine lv_iconst (v := 1) hx hb dL_law_757 (by decide) ?_
    exact lw_ret hx hb hr hlocks dL_law_758
  · have hj4 : 4 * j + 4 ≤ L := q_l4 hL hj c29
    have kk := kk hj4
    have hc9 : 18 + j + 1 ≤ room_1.cells := by show 18 + j + 1 ≤ 1052; omega
    have hs9 : 2012 + 6 * j + 6 ≤ room_1.slots := by show 2012 + 6 * j + 6 ≤ 10264; omega
    refine lv_aload_n hx hb dL_law_32 rfl (lv_at hl 4 rfl) ?_
    refine lv_iload hx hb dL_law_33 (lv_at hl 0 rfl) ?_
    refine q_sld hx hb hX hbl hbA hS (k := 4 * j) (by omega) (by omega) dL_law_35 ?_
    refine lv_bipush (v := 15) hx hb dL_law_36 (by decide) ?_
    refine lv_iand hx hb dL_law_38 ?_
    obtain ⟨v, hv, hv2⟩ := q_and15 (xs (4 * j))
    rw [hv2]
    rcases (show v = 0 ∨ v = 1 ∨ v = 2 ∨ v = 3 ∨ v = 4 ∨ v = 5 ∨ v = 6 ∨ v = 7 ∨ v = 8 ∨ v = 9 ∨ v = 10 ∨ v = 11 ∨ v = 12 ∨ v = 13 ∨ v = 14 ∨ v = 15 by omega) with rfl | rfl | rfl | rfl | rfl | rfl | rfl | rfl | rfl | rfl | rfl | rfl | rfl | rfl | rfl | rfl
    · exact lv_tableIn (off := 61) (tgt := 100) hx hb dL_law_39 (by decide) (by decide) (by decide) (by decide) (cmd_site C hLI j hj4 hc9 hs9 hP hD hS hl kk)
    · exact lv_tableIn (off := 129) (tgt := 168) hx hb dL_law_39 (by decide) (by decide) (by decide) (by decide) (cmd_remove C hLI j hj4 hc9 hs9 hP hD hS hl kk)
    · exact lv_tableIn (off := 165) (tgt := 204) hx hb dL_law_39 (by decide) (by decide) (by decide) (by decide) (cmd_move C hLI j hj4 hc9 hs9 hP hD hS hl kk)
    · exact lv_tableIn (off := 225) (tgt := 264) hx hb dL_law_39 (by decide) (by decide) (by decide) (by decide) (cmd_clear C hLI j hj4 hc9 hs9 hP hD hS hl kk)
    · exact lv_tableIn (off := 236) (tgt := 275) hx hb dL_law_39 (by decide) (by decide) (by decide) (by decide) (cmd_where C hLI j hj4 hc9 hs9 hP hD hS hl kk)
    · exact lv_tableIn (off := 304) (tgt := 343) hx hb dL_law_39 (by decide) (by decide) (by decide) (by decide) (cmd_cells C hLI j hj4 hc9 hs9 hP hD hS hl kk)
    · exact lv_tableIn (off := 317) (tgt := 356) hx hb dL_law_39 (by decide) (by decide) (by decide) (by decide) (cmd_cell C hLI j hj4 hc9 hs9 hP hD hS hl kk)
    · exact lv_tableIn (off := 385) (tgt := 424) hx hb dL_law_39 (by decide) (by decide) (by decide) (by decide) (cmd_beside C hLI j hj4 hc9 hs9 hP hD hS hl kk)
    · exact lv_tableIn (off := 453) (tgt := 492) hx hb dL_law_39 (by decide) (by decide) (by decide) (by decide) (cmd_centre C hLI j hj4 hc9 hs9 hP hD hS hl kk)
    · exact lv_tableIn (off := 520) (tgt := 559) hx hb dL_law_39 (by decide) (by decide) (by decide) (by decide) (cmd_hull C hLI j hj4 hc9 hs9 hP hD hS hl kk)
    · exact lv_tableIn (off := 576) (tgt := 615) hx hb dL_law_39 (by decide) (by decide) (by decide) (by decide) (cmd_around C hLI j hj4 hc9 hs9 hP hD hS hl kk)
    · exact lv_tableIn (off := 644) (tgt := 683) hx hb dL_law_39 (by decide) (by decide) (by decide) (by decide) (cmd_nearest C hLI j hj4 hc9 hs9 hP hD hS hl kk)
    · refine lv_tableOut (tgt := 751) hx hb dL_law_39 (Or.inr (by decide)) (by decide) ?_
      refine W.widen (k := 18 + j + 1) (n := 2012 + 6 * j + 6) (by omega) (by omega) ?_
      exact kk x y n st z rm rc th md sz rd q od hu hz ou H locs ls hLI hP hD hS hl
    · refine lv_tableOut (tgt := 751) hx hb dL_law_39 (Or.inr (by decide)) (by decide) ?_
      refine W.widen (k := 18 + j + 1) (n := 2012 + 6 * j + 6) (by omega) (by omega) ?_
      exact kk x y n st z rm rc th md sz rd q od hu hz ou H locs ls hLI hP hD hS hl
    · refine lv_tableOut (tgt := 751) hx hb dL_law_39 (Or.inr (by decide)) (by decide) ?_
      refine W.widen (k := 18 + j + 1) (n := 2012 + 6 * j + 6) (by omega) (by omega) ?_
      exact kk x y n st z rm rc th md sz rd q od hu hz ou H locs ls hLI hP hD hS hl
    · refine lv_tableOut (tgt := 751) hx hb dL_law_39 (Or.inr (by decide)) (by decide) ?_
      refine W.widen (k := 18 + j + 1) (n := 2012 + 6 * j + 6) (by omega) (by omega) ?_
      exact kk x y n st z rm rc th md sz rd q od hu hz ou H locs ls hLI hP hD hS hl
set_option maxHeartbeats 4000000 in
theorem lw_loop {p : Program} {l : Launch} {e : Env} {s : State} {m : MethodId} {below : List Frame} {meth : Method} {c : Code} {A : Nat → Prop} {b L : Nat} {xs : Nat → Int32} {dC : Nat → ClassId} {dI : Nat → Nat → Nat} {cI cJ : ClassId} (C : lw_Cx p l s m meth c A b L xs dC dI cI cJ) (hr : meth.sig.returnType = ret) (hlocks : meth.locks = false) (hAs : ∀ q, A q → s.heap.size ≤ q) {c0 m0 g0 s0 xa ya ra sa oa ma o0 xb yb za ua wa va oj : Nat} : ∀ (f j : Nat), L < 4 * j + 4 * f → j ≤ 512 → ∀ (x y : Nat → Int32) (n : Nat) (st : Int32) (z : (Int32 × Int32 × Int64 × Int64 × Int64) × (Nat → Nat) × (Nat → Nat) × (Nat → Int32) × Nat) (rm : Nat → Int32) (rc : Nat) (th md : Int32) (sz rd : Nat → Nat) (q : Nat) (od hu : Nat → Nat) (hz : Nat) (ou : Nat → Int64) (H : Heap) (locs : List Loc) (ls : Array Slot), v_LI x y n st z rm rc md sz rd q od hu hz → va_P (dC, dI) vwCl (lw_W c0 m0 g0 s0 xa ya ra sa oa ma o0 xb yb za ua wa va oj cI cJ x y n st z rm rc th md sz rd q od hu hz ou) H → va_D A (lw_W c0 m0 g0 s0 xa ya ra sa oa ma o0 xb yb za ua wa va oj cI cJ x y n st z rm rc th md sz rd q od hu hz ou) → va_S A s.heap H locs → lv_has ls 8 [(4, .int (nI (4 * j))), (3, .ref oj), (2, .ref o0), (1, .ref c0), (0, .ref b)] → W p l e room_1 s m #[Value.ref b] below meth c H locs (18 + j) (2012 + 6 * j) (lw_Z below #[Value.ref b] s) (F0 m 23 ls []) := by
  intro f
  induction f with
  | zero =>
    intro j hf hj x y n st z rm rc th md sz rd q od hu hz ou H locs ls hLI hP hD hS hl
    exact lw_step C hr hlocks hAs hLI j hj hP hD hS hl (fun h9 => absurd h9 (by omega))
  | succ f ih =>
    intro j hf hj x y n st z rm rc th md sz rd q od hu hz ou H locs ls hLI hP hD hS hl
    refine lw_step C hr hlocks hAs hLI j hj hP hD hS hl (fun h9 => ?_)
    intro x y n st z rm rc th md sz rd q od hu hz ou H locs ls hLI hP hD hS hl
    obtain ⟨hst9, hx, hb, hml, hown, hts, hX, hbl, hbA, hK, hE, hNc, hL⟩ := id C
    refine lv_iinc (v := nI (4 * (j + 1))) (lv' := [(4, .int (nI (4 * (j + 1)))), (3, .ref oj), (2, .ref o0), (1, .ref c0), (0, .ref b)]) hx hb dL_law_751 hl (k := 0) rfl (by rw [show Int32.ofInt 4 = nI 4 from rfl, nI_add]; rfl) (by decide) rfl (fun ls hl => ?_)
    refine lv_goto (tgt := 23) hx hb dL_law_754 (by decide) ?_
    have h3 := ih (j + 1) (by omega) (by omega) x y n st z rm rc th md sz rd q od hu hz ou H locs ls hLI hP hD hS hl
    rw [show 18 + (j + 1) = 18 + j + 1 by omega, show 2012 + 6 * (j + 1) = 2012 + 6 * j + 6 by omega] at h3
    exact h3
theorem vk_ex {own tx : String} {k : Nat} {A : Array Value} {U : State} (h : (Cond.stringRef own k tx).before A U = true) : ∃ a, vk_R own k tx a U := by
  have h0 : (Cond.stringRef own k tx).before #[] U = true := h
  have h1 := h0
  simp only [Cond.before, Cond.holds, Cond.value] at h1
  cases hc : U.vm.findClass own with
  | none => simp [hc] at h1
  | some cl =>
    cases hr : U.resolvedAt? own k with
    | none => simp [hc, hr] at h1
    | some r =>
      cases r with
      | string a =>
        refine ⟨a, h0, ?_⟩
        simp only [State.resolvedAt?, hc] at hr
        simp only [Term.eval, hc]
        cases hk : U.vm.classes[cl]? with
        | none => simp [hk] at hr
        | some kc => simp [hk] at hr ⊢; simp [hr]
      | _ => simp [hc, hr] at h1
theorem q_newl {p : Program} {l : Launch} {e : Env} {R : Room} {s : State} {m : MethodId} {args : Array Value} {below : List Frame} {meth : Method} {c : Code} {H : Heap} {locs : List Loc} {cells slots : Nat} {Q : State → Prop} {cc : ByteArray} {pc : Nat} {ls : Array Slot} {rest : List Value} {D : va_G} {A : Nat → Prop} {tys : List (ClassId × FieldType)} {ws : va_W} {H0 : Heap} (hexec : p.tables.exec = Jvm.exec) (hb : c.code = cc) (harr : (Cond.arrayClass .long).before args s = true) (hK : va_K D vwCl tys s) {cJ : ClassId} (t0 : Nat) (ht : tys[t0]? = some (cJ, .long)) (hP : va_P D vwCl ws H) (hD : va_D A ws) (hS : va_S A H0 H locs) (hA : ∀ q, H0.size ≤ q → A q) {n : Nat} (hn : n ≤ 2000) (hcells : cells + 1 ≤ R.cells) (hslots : slots + n ≤ R.slots) (hdg : decode cc pc = .ok (.newarray .long, 2)) {ws' : Nat → va_W} (hw : ∀ q, ws ++ [(q, .inl (cJ, n, .inr (.inl (fun _ => 0))))] = ws' q)
    (kk : ∀ (q : Nat) (H1 : Heap), va_P D vwCl (ws' q) H1 → va_D A (ws' q) → va_S A H0 H1 locs → W p l e R s m args below meth c H1 locs (cells + 1) (slots + n) Q (F0 m (pc + 2) ls (.ref q :: rest))) : W p l e R s m args below meth c H locs cells slots Q (F0 m pc ls (.int (nI n) :: rest)) := by
  refine va_newa (atype := .long) (N' := n) (a0 := (n, .inr (.inl (fun _ => 0)))) hexec hb harr (ty := .long) rfl hK hP hD hS hA (fun cA => rfl) (nI_pos (by omega)) (nI_clamp (by omega)) (by show n * 8 ≤ 536870912; omega) hcells hslots hdg (fun q cA H1 hK1 hP1 hD1 hS1 => ?_)
  have h1 : va_RA s cJ .long := (hK.2 t0 _ ht).2
  have h2 : va_RA s cA .long := (hK1.2 tys.length (cA, .long) (by simp)).2
  have h3 : cA = cJ := Option.some.inj (Eq.trans (Eq.symm h2) h1)
  subst h3
  rw [hw q] at hP1 hD1
  exact kk q H1 hP1 hD1 hS1
theorem lw_LI0 : v_LI (fun _ => 0) (fun _ => 0) 0 0 ((0, 0, 0, 0, 0), (fun _ => 0), (fun _ => 0), (fun _ => 0), 0) (fun _ => 0) 0 0 (fun _ => 0) (fun _ => 0) 0 (fun _ => 0) (fun _ => 0) 0 := by
  have z0 : (0 : Int32).toInt = 0 := rfl
  refine ⟨⟨by omega, fun s => ?_, fun i j hi => absurd hi (Nat.not_lt_zero _)⟩, rfl, fun j => by show 0 < 20; omega, fun _ => Or.inr ⟨rfl, rfl, fun j => by show 0 < 20; omega, rfl, rfl⟩, fun j => by show 0 < 60; omega, fun j => by show 0 ≤ 20; omega, fun j => by show 0 < 20; omega, Or.inl rfl⟩
  show -400 ≤ (0 : Int32).toInt ∧ (0 : Int32).toInt ≤ 400 ∧ -400 ≤ (0 : Int32).toInt ∧ (0 : Int32).toInt ≤ 400
  rw [z0]
  omega
set_option maxHeartbeats 4000000 in
set_option maxRecDepth 100000 in
theorem whole_start {p : Program} {e : Env} {s : State} {m : MethodId} {below : List Frame} {meth : Method} {c : Code} (l : Launch) (hst9 : l.stackTraces = false) {b L : Nat} {xs : Nat → Int32} (hL : L ≤ 2048) (C0 : lw_At p s m meth c b L xs) : W p l e room_1 s m #[Value.ref b] below meth c s.heap [] 0 0 (lw_Z below #[Value.ref b] s) (entryFrame m ([Value.ref b] : List Value).toArray 8) := by
  obtain ⟨hx, hb, hr, hml, hown, hts0, hX, hbl, hlocks, hgv⟩ := C0
  have hown : s.vm.findClass RL = some m.cls := hown
  have hts : ∀ w ∈ wsL_law, w.before #[Value.ref b] s = true := fun w h => hts0 w (wsL_law_in w h)
  have hg := flat_of_before _ hgv
  have hA : ∀ q : Nat, s.heap.size ≤ q → (fun q : Nat => s.heap.size ≤ q) q := fun _ h => h
  have hAs : ∀ q : Nat, (fun q : Nat => s.heap.size ≤ q) q → s.heap.size ≤ q := fun _ h => h
  have hbA : ¬ (fun q : Nat => s.heap.size ≤ q) b := Nat.not_le.mpr hbl
  have hno : ∀ a : Nat, a < s.heap.size → ¬ (fun q : Nat => s.heap.size ≤ q) a := fun a h => Nat.not_le.mpr h
  obtain ⟨cc0, iS0, hKn0⟩ := u_known (C := RX0) (T := TX0) (N := 5) (n := 5) hts inlX0 (hts (.instantiable RX0 5) (by decide +kernel))
  obtain ⟨cc1, iS1, hKn1⟩ := u_known (C := RX1) (T := TX1) (N := 8) (n := 8) hts inlX1 (hts (.instantiable RX1 8) (by decide +kernel))
  obtain ⟨cc2, iS2, hKn2⟩ := u_known (C := RX2) (T := TX2) (N := 3) (n := 3) hts inlX2 (hts (.instantiable RX2 3) (by decide +kernel))
  obtain ⟨cc3, iS3, hKn3⟩ := u_known (C := RX3) (T := TX3) (N := 3) (n := 3) hts inlX3 (hts (.instantiable RX3 3) (by decide +kernel))
  obtain ⟨cc4, iS4, hKn4⟩ := u_known (C := RX4) (T := TX4) (N := 11) (n := 11) hts inlX4 (hts (.instantiable RX4 11) (by decide +kernel))
  obtain ⟨dC, dI, hKc⟩ : ∃ (dC : Nat → ClassId) (dI : Nat → Nat → Nat), ∀ (k : Nat) (q : vw_C), vwCl[k]? = some q → u_Kn s q.1 q.2.1 q.2.2 (dC k) (dI k) := by
    refine ⟨fun k => if k = 0 then cc0 else if k = 1 then cc1 else if k = 2 then cc2 else if k = 3 then cc3 else cc4, fun k => if k = 0 then iS0 else if k = 1 then iS1 else if k = 2 then iS2 else if k = 3 then iS3 else iS4, ?_⟩
    intro k q hq
    match k, hq with
    | 0, hq => cases hq; exact hKn0
    | 1, hq => cases hq; exact hKn1
    | 2, hq => cases hq; exact hKn2
    | 3, hq => cases hq; exact hKn3
    | 4, hq => cases hq; exact hKn4
    | k + 5, hq => simp [vwCl] at hq
  obtain ⟨cI, kI, compI, fI, gI, tI⟩ := Cond.arrayClass_spec (hts (.arrayClass .int) (by decide +kernel))
  obtain ⟨cJ, kJ, compJ, fJ, gJ, tJ⟩ := Cond.arrayClass_spec (hts (.arrayClass .long) (by decide +kernel))
  have hK : va_K (dC, dI) vwCl [(cI, .int), (cJ, .long)] s := by
    refine ⟨hKc, fun k q h => ?_⟩
    match k, h with
    | 0, h => cases h; exact ⟨fun n z => ⟨fun k h => (by cases h), kI, gI, compI, tI⟩, fI⟩
    | 1, h => cases h; exact ⟨fun n z => ⟨fun k h => (by cases h), kJ, gJ, compJ, tJ⟩, fJ⟩
    | k + 2, h => simp at h
  have hZ1 : vx_Zq Bundle.tN "UNASSIGNED_STACK" Bundle.steD (fun q : Nat => s.heap.size ≤ q) s s.heap := vx_Zqof (hts0 (.laysStatic Bundle.tN "UNASSIGNED_STACK" Bundle.steD) (by decide +kernel)) (hts0 (.initialized Bundle.tN) (by decide +kernel)) (hg (.isRef (.static Bundle.tN "UNASSIGNED_STACK" Bundle.steD)) (by decide +kernel)) hno
  have hZ2 : vx_Zq Bundle.tN "SUPPRESSED_SENTINEL" Bundle.listD (fun q : Nat => s.heap.size ≤ q) s s.heap := vx_Zqof (hts0 (.laysStatic Bundle.tN "SUPPRESSED_SENTINEL" Bundle.listD) (by decide +kernel)) (hts0 (.initialized Bundle.tN) (by decide +kernel)) (hg (.isRef (.static Bundle.tN "SUPPRESSED_SENTINEL" Bundle.listD)) (by decide +kernel)) hno
  have hE : q_E (fun q : Nat => s.heap.size ≤ q) s s.heap := by
    refine ⟨⟨hZ1, hZ2⟩, ⟨va_Nw.of rfl (hts0 (.declares (Bundle.initS "java/lang/RuntimeException")) (by decide +kernel)), va_Nw.of rfl (hts0 (.declares (Bundle.initS "java/lang/Exception")) (by decide +kernel)), va_Nw.of rfl (hts0 (.declares (Bundle.initS Bundle.tN)) (by decide +kernel))⟩, ?_, ?_⟩
    · intro X hX9
      simp only [q_exs, List.mem_cons, List.not_mem_nil, or_false] at hX9
      rcases hX9 with rfl | rfl | rfl | rfl
      · exact va_Nw.of rfl (hts0 (.castable q_IA q_IA) (by decide +kernel))
      · exact va_Nw.of rfl (hts0 (.castable q_IS q_IS) (by decide +kernel))
      · exact va_Nw.of rfl (hts0 (.castable q_NE q_NE) (by decide +kernel))
      · exact va_Nw.of rfl (hts0 (.castable q_IO q_IO) (by decide +kernel))
    · intro q9 hq9
      simp only [q_strs, List.mem_cons, List.not_mem_nil, or_false] at hq9
      rcases hq9 with rfl | rfl | rfl | rfl | rfl | rfl | rfl | rfl | rfl | rfl
      · exact vk_ex (hts0 (.stringRef RX3 129 "x and y are from -400 to 400") (by decide +kernel))
      · exact vk_ex (hts0 (.stringRef RX3 39 "there is a site at the place") (by decide +kernel))
      · exact vk_ex (hts0 (.stringRef RX3 50 "there are 20 sites") (by decide +kernel))
      · exact vk_ex (hts0 (.stringRef RX3 131 "no such site") (by decide +kernel))
      · exact vk_ex (hts0 (.stringRef RX3 63 "another site is there") (by decide +kernel))
      · exact vk_ex (hts0 (.stringRef RX3 72 "what is 0 or 1") (by decide +kernel))
      · exact vk_ex (hts0 (.stringRef RX3 135 "no such cell") (by decide +kernel))
      · exact vk_ex (hts0 (.stringRef RX3 140 "no such i") (by decide +kernel))
      · exact vk_ex (hts0 (.stringRef RX3 103 "what is 0, 1 or 2") (by decide +kernel))
      · exact vk_ex (hts0 (.stringRef RX3 124 "there is no site") (by decide +kernel))
  have hNc : q_nc s := ⟨va_Nc.of (hg (.not (.castable q_IS q_IA)) (by decide +kernel)), va_Nc.of (hg (.not (.castable q_IO q_NE)) (by decide +kernel)), va_Nc.of (hg (.not (.castable q_IA q_NE)) (by decide +kernel))⟩
  have hNest : q_nest3 s := ⟨va_Nw.of rfl (hts0 (.methodLinkNest RX3 11 yX2_init "CircleCells") (by decide +kernel)), va_Nw.of rfl (hts0 (.methodLinkNest RX1 11 yX0_init "CircleCells") (by decide +kernel))⟩
  generalize hAe : (fun q : Nat => s.heap.size ≤ q) = A at hA hAs hbA hE
  have hS : va_S A s.heap s.heap [] := va_S.rf
  have hP : va_P (dC, dI) vwCl [] s.heap := fun k q h => by simp at h
  have hD : va_D A [] := ⟨fun i j p q h => by simp at h, fun k q h => by simp at h⟩
  have hl := lv_entry ([.ref b]) (n := 8) (Nat.le_of_ble_eq_true rfl)
  rw [lg_entry_eq]
  generalize (lg_sl ([.ref b]) ++ List.replicate (8 - (lg_sl ([.ref b])).length) Slot.unset).toArray = ls at hl ⊢
  have hl : lv_has ls 8 [(0, .ref b)] := hl
  refine va_new (ci := 3) (fs := [.null, .null, .int 0]) (C := RX3) (T := TX3) (N := 3) hx hb hts (by decide +kernel) tyX3 tyX3_ok hown (hts (.classLink RL 8 RX3) (by decide +kernel)) (hts (.instantiable RX3 3) (by decide +kernel)) (hts (.initialized RX3) (by decide +kernel)) hK hP hD hS hA rfl (fun j hj => by rcases (show j = 0 ∨ j = 1 ∨ j = 2 by omega) with rfl | rfl | rfl <;> rfl) (Nat.le_of_ble_eq_true rfl) (Nat.le_of_ble_eq_true rfl) dL_law_0 (fun q0 H hP hD hS => ?_)
  have hP : va_P (dC, dI) vwCl [(q0, .inr (3, [.null, .null, .int 0]))] H := hP
  have hD : va_D A [(q0, .inr (3, [.null, .null, .int 0]))] := hD
  refine lv_dup hx hb dL_law_3 rfl ?_
  refine q_kI (wc := [(q0, .inr (3, [.null, .null, .int 0]))]) (wr := []) (W2 := (fun u : (Nat × Nat × Nat) × Nat × Nat × Nat × Nat × Nat × Nat => [(q0, .inr (3, [.ref u.1.1, .ref u.2.1, .int 0])), (u.2.1, .inr (1, [.ref u.1.1, .ref u.2.2.1, .ref u.2.2.2.1, .ref u.2.2.2.2.1, .ref u.2.2.2.2.2.1, .int (nI 0), .ref u.2.2.2.2.2.2, .int (nI 0)])), (u.2.2.1, .inr (0, [.int 0, .int 0, .long 0, .long 0, .long 0])), (u.1.1, .inr (2, [.ref u.1.2.1, .ref u.1.2.2, .int (nI 0)])), (u.1.2.1, .inl (cI, 20, .inl (fun _ => 0))), (u.1.2.2, .inl (cI, 20, .inl (fun _ => 0))), (u.2.2.2.1, .inl (cI, 105, .inl (fun j9 => nI ((fun _ => 0) j9)))), (u.2.2.2.2.1, .inl (cI, 36, .inl (fun j9 => nI ((fun _ => 0) j9)))), (u.2.2.2.2.2.1, .inl (cI, 400, .inl (fun _ => 0))), (u.2.2.2.2.2.2, .inl (cI, 20, .inl (fun _ => 0)))])) (wN := (fun u : (Nat × Nat × Nat) × Nat × Nat × Nat × Nat × Nat × Nat => [(q0, .inr (3, [.ref u.1.1, .ref u.2.1, .int 0])), (u.2.1, .inr (1, [.ref u.1.1, .ref u.2.2.1, .ref u.2.2.2.1, .ref u.2.2.2.2.1, .ref u.2.2.2.2.2.1, .int (nI 0), .ref u.2.2.2.2.2.2, .int (nI 0)])), (u.2.2.1, .inr (0, [.int 0, .int 0, .long 0, .long 0, .long 0])), (u.1.1, .inr (2, [.ref u.1.2.1, .ref u.1.2.2, .int (nI 0)])), (u.1.2.1, .inl (cI, 20, .inl (fun _ => 0))), (u.1.2.2, .inl (cI, 20, .inl (fun _ => 0))), (u.2.2.2.1, .inl (cI, 105, .inl (fun j9 => nI ((fun _ => 0) j9)))), (u.2.2.2.2.1, .inl (cI, 36, .inl (fun j9 => nI ((fun _ => 0) j9)))), (u.2.2.2.2.2.1, .inl (cI, 400, .inl (fun _ => 0))), (u.2.2.2.2.2.2, .inl (cI, 20, .inl (fun _ => 0)))])) (va_runI (As := []) (rest := [.ref q0]) ⟨hx, hb, hml, hown, hts⟩ (k_X3_init l dC dI _ q0 cI) (cwI 0 hts gL_law_X3_init rfl rfl rfl (hts (.initialized RX3) (by decide +kernel)) (hts (.methodLink RL 52 yX3_init) (by decide +kernel)) (hts (.instanceMethod yX3_init) (by decide +kernel)) rfl (by decide +kernel) ⟨Nat.le_of_ble_eq_true rfl, Nat.le_of_ble_eq_true rfl⟩) (q_pk q_lasts_3 hNest hK hP hD [0] [0] rfl rfl rfl rfl) rfl rfl hl.1 rfl (lv_room (Nat.le_of_ble_eq_true rfl)) dL_law_4 ⟨Nat.le_of_ble_eq_true rfl, Nat.le_of_ble_eq_true rfl⟩) hP hD hS hA [0] [] rfl rfl (by decide) (by decide) (fun _ => rfl) (fun u4 H locs hP hD hS => ?_)
  have hP : va_P (dC, dI) vwCl [(q0, .inr (3, [.ref u4.1.1, .ref u4.2.1, .int 0])), (u4.2.1, .inr (1, [.ref u4.1.1, .ref u4.2.2.1, .ref u4.2.2.2.1, .ref u4.2.2.2.2.1, .ref u4.2.2.2.2.2.1, .int (nI 0), .ref u4.2.2.2.2.2.2, .int (nI 0)])), (u4.2.2.1, .inr (0, [.int 0, .int 0, .long 0, .long 0, .long 0])), (u4.1.1, .inr (2, [.ref u4.1.2.1, .ref u4.1.2.2, .int (nI 0)])), (u4.1.2.1, .inl (cI, 20, .inl (fun _ => 0))), (u4.1.2.2, .inl (cI, 20, .inl (fun _ => 0))), (u4.2.2.2.1, .inl (cI, 105, .inl (fun j9 => nI ((fun _ => 0) j9)))), (u4.2.2.2.2.1, .inl (cI, 36, .inl (fun j9 => nI ((fun _ => 0) j9)))), (u4.2.2.2.2.2.1, .inl (cI, 400, .inl (fun _ => 0))), (u4.2.2.2.2.2.2, .inl (cI, 20, .inl (fun _ => 0)))] H := hP
  have hD : va_D A [(q0, .inr (3, [.ref u4.1.1, .ref u4.2.1, .int 0])), (u4.2.1, .inr (1, [.ref u4.1.1, .ref u4.2.2.1, .ref u4.2.2.2.1, .ref u4.2.2.2.2.1, .ref u4.2.2.2.2.2.1, .int (nI 0), .ref u4.2.2.2.2.2.2, .int (nI 0)])), (u4.2.2.1, .inr (0, [.int 0, .int 0, .long 0, .long 0, .long 0])), (u4.1.1, .inr (2, [.ref u4.1.2.1, .ref u4.1.2.2, .int (nI 0)])), (u4.1.2.1, .inl (cI, 20, .inl (fun _ => 0))), (u4.1.2.2, .inl (cI, 20, .inl (fun _ => 0))), (u4.2.2.2.1, .inl (cI, 105, .inl (fun j9 => nI ((fun _ => 0) j9)))), (u4.2.2.2.2.1, .inl (cI, 36, .inl (fun j9 => nI ((fun _ => 0) j9)))), (u4.2.2.2.2.2.1, .inl (cI, 400, .inl (fun _ => 0))), (u4.2.2.2.2.2.2, .inl (cI, 20, .inl (fun _ => 0)))] := hD
  refine W.eq (g2 := F0 m 7 ls [.ref q0]) rfl ?_
  refine lv_astore_n (lv' := [(1, .ref q0), (0, .ref b)]) hx hb dL_law_7 rfl hl (by decide) rfl (fun ls hl => ?_)
  refine va_new (ci := 4) (fs := [.int 0, .int 0, .null, .null, .int 0, .int 0, .null, .null, .null, .int 0, .null]) (C := RX4) (T := TX4) (N := 11) hx hb hts (by decide +kernel) tyX4 tyX4_ok hown (hts (.classLink RL 53 RX4) (by decide +kernel)) (hts (.instantiable RX4 11) (by decide +kernel)) (hts (.initialized RX4) (by decide +kernel)) hK hP hD hS hA rfl (fun j hj => by rcases (show j = 0 ∨ j = 1 ∨ j = 2 ∨ j = 3 ∨ j = 4 ∨ j = 5 ∨ j = 6 ∨ j = 7 ∨ j = 8 ∨ j = 9 ∨ j = 10 by omega) with rfl | rfl | rfl | rfl | rfl | rfl | rfl | rfl | rfl | rfl | rfl <;> rfl) (Nat.le_of_ble_eq_true rfl) (Nat.le_of_ble_eq_true rfl) dL_law_8 (fun q8 H hP hD hS => ?_)
  have hP : va_P (dC, dI) vwCl [(q0, .inr (3, [.ref u4.1.1, .ref u4.2.1, .int 0])), (u4.2.1, .inr (1, [.ref u4.1.1, .ref u4.2.2.1, .ref u4.2.2.2.1, .ref u4.2.2.2.2.1, .ref u4.2.2.2.2.2.1, .int (nI 0), .ref u4.2.2.2.2.2.2, .int (nI 0)])), (u4.2.2.1, .inr (0, [.int 0, .int 0, .long 0, .long 0, .long 0])), (u4.1.1, .inr (2, [.ref u4.1.2.1, .ref u4.1.2.2, .int (nI 0)])), (u4.1.2.1, .inl (cI, 20, .inl (fun _ => 0))), (u4.1.2.2, .inl (cI, 20, .inl (fun _ => 0))), (u4.2.2.2.1, .inl (cI, 105, .inl (fun j9 => nI ((fun _ => 0) j9)))), (u4.2.2.2.2.1, .inl (cI, 36, .inl (fun j9 => nI ((fun _ => 0) j9)))), (u4.2.2.2.2.2.1, .inl (cI, 400, .inl (fun _ => 0))), (u4.2.2.2.2.2.2, .inl (cI, 20, .inl (fun _ => 0))), (q8, .inr (4, [.int 0, .int 0, .null, .null, .int 0, .int 0, .null, .null, .null, .int 0, .null]))] H := hP
  have hD : va_D A [(q0, .inr (3, [.ref u4.1.1, .ref u4.2.1, .int 0])), (u4.2.1, .inr (1, [.ref u4.1.1, .ref u4.2.2.1, .ref u4.2.2.2.1, .ref u4.2.2.2.2.1, .ref u4.2.2.2.2.2.1, .int (nI 0), .ref u4.2.2.2.2.2.2, .int (nI 0)])), (u4.2.2.1, .inr (0, [.int 0, .int 0, .long 0, .long 0, .long 0])), (u4.1.1, .inr (2, [.ref u4.1.2.1, .ref u4.1.2.2, .int (nI 0)])), (u4.1.2.1, .inl (cI, 20, .inl (fun _ => 0))), (u4.1.2.2, .inl (cI, 20, .inl (fun _ => 0))), (u4.2.2.2.1, .inl (cI, 105, .inl (fun j9 => nI ((fun _ => 0) j9)))), (u4.2.2.2.2.1, .inl (cI, 36, .inl (fun j9 => nI ((fun _ => 0) j9)))), (u4.2.2.2.2.2.1, .inl (cI, 400, .inl (fun _ => 0))), (u4.2.2.2.2.2.2, .inl (cI, 20, .inl (fun _ => 0))), (q8, .inr (4, [.int 0, .int 0, .null, .null, .int 0, .int 0, .null, .null, .null, .int 0, .null]))] := hD
  refine lv_dup hx hb dL_law_11 rfl ?_
  refine q_kI (wc := [(q8, .inr (4, [.int 0, .int 0, .null, .null, .int 0, .int 0, .null, .null, .null, .int 0, .null]))]) (wr := [(q0, .inr (3, [.ref u4.1.1, .ref u4.2.1, .int 0])), (u4.2.1, .inr (1, [.ref u4.1.1, .ref u4.2.2.1, .ref u4.2.2.2.1, .ref u4.2.2.2.2.1, .ref u4.2.2.2.2.2.1, .int (nI 0), .ref u4.2.2.2.2.2.2, .int (nI 0)])), (u4.2.2.1, .inr (0, [.int 0, .int 0, .long 0, .long 0, .long 0])), (u4.1.1, .inr (2, [.ref u4.1.2.1, .ref u4.1.2.2, .int (nI 0)])), (u4.1.2.1, .inl (cI, 20, .inl (fun _ => 0))), (u4.1.2.2, .inl (cI, 20, .inl (fun _ => 0))), (u4.2.2.2.1, .inl (cI, 105, .inl (fun j9 => nI ((fun _ => 0) j9)))), (u4.2.2.2.2.1, .inl (cI, 36, .inl (fun j9 => nI ((fun _ => 0) j9)))), (u4.2.2.2.2.2.1, .inl (cI, 400, .inl (fun _ => 0))), (u4.2.2.2.2.2.2, .inl (cI, 20, .inl (fun _ => 0)))]) (W2 := (fun u : Nat × Nat × Nat × Nat × Nat × Nat => [(q8, .inr (4, [.int 0, .int (nI 0), .ref u.1, .ref u.2.1, .int 0, .int (nI 0), .ref u.2.2.1, .ref u.2.2.2.1, .ref u.2.2.2.2.1, .int (nI 0), .ref u.2.2.2.2.2])), (u.1, .inl (cI, 20, .inl (fun _ => 0))), (u.2.1, .inl (cI, 20, .inl (fun _ => 0))), (u.2.2.1, .inl (cI, 60, .inl (fun j9 => nI ((fun _ => 0) j9)))), (u.2.2.2.1, .inl (cI, 1200, .inl (fun j9 => nI ((fun _ => 0) j9)))), (u.2.2.2.2.1, .inl (cI, 60, .inl (fun j9 => nI ((fun _ => 0) j9)))), (u.2.2.2.2.2, .inl (cI, 20, .inl (fun j9 => nI ((fun _ => 0) j9))))])) (wN := (fun u : Nat × Nat × Nat × Nat × Nat × Nat => [(q0, .inr (3, [.ref u4.1.1, .ref u4.2.1, .int 0])), (u4.2.1, .inr (1, [.ref u4.1.1, .ref u4.2.2.1, .ref u4.2.2.2.1, .ref u4.2.2.2.2.1, .ref u4.2.2.2.2.2.1, .int (nI 0), .ref u4.2.2.2.2.2.2, .int (nI 0)])), (u4.2.2.1, .inr (0, [.int 0, .int 0, .long 0, .long 0, .long 0])), (u4.1.1, .inr (2, [.ref u4.1.2.1, .ref u4.1.2.2, .int (nI 0)])), (u4.1.2.1, .inl (cI, 20, .inl (fun _ => 0))), (u4.1.2.2, .inl (cI, 20, .inl (fun _ => 0))), (u4.2.2.2.1, .inl (cI, 105, .inl (fun j9 => nI ((fun _ => 0) j9)))), (u4.2.2.2.2.1, .inl (cI, 36, .inl (fun j9 => nI ((fun _ => 0) j9)))), (u4.2.2.2.2.2.1, .inl (cI, 400, .inl (fun _ => 0))), (u4.2.2.2.2.2.2, .inl (cI, 20, .inl (fun _ => 0))), (q8, .inr (4, [.int 0, .int (nI 0), .ref u.1, .ref u.2.1, .int 0, .int (nI 0), .ref u.2.2.1, .ref u.2.2.2.1, .ref u.2.2.2.2.1, .int (nI 0), .ref u.2.2.2.2.2])), (u.1, .inl (cI, 20, .inl (fun _ => 0))), (u.2.1, .inl (cI, 20, .inl (fun _ => 0))), (u.2.2.1, .inl (cI, 60, .inl (fun j9 => nI ((fun _ => 0) j9)))), (u.2.2.2.1, .inl (cI, 1200, .inl (fun j9 => nI ((fun _ => 0) j9)))), (u.2.2.2.2.1, .inl (cI, 60, .inl (fun j9 => nI ((fun _ => 0) j9)))), (u.2.2.2.2.2, .inl (cI, 20, .inl (fun j9 => nI ((fun _ => 0) j9))))])) (va_runI (As := []) (rest := [.ref q8]) ⟨hx, hb, hml, hown, hts⟩ (k_X4_init l dC dI _ q8 cI) (cwI 0 hts gL_law_X4_init rfl rfl rfl (hts (.initialized RX4) (by decide +kernel)) (hts (.methodLink RL 55 yX4_init) (by decide +kernel)) (hts (.instanceMethod yX4_init) (by decide +kernel)) rfl (by decide +kernel) ⟨Nat.le_of_ble_eq_true rfl, Nat.le_of_ble_eq_true rfl⟩) (q_pk q_lasts_t trivial hK hP hD [10] [0] rfl rfl rfl rfl) rfl rfl hl.1 rfl (lv_room (Nat.le_of_ble_eq_true rfl)) dL_law_12 ⟨Nat.le_of_ble_eq_true rfl, Nat.le_of_ble_eq_true rfl⟩) hP hD hS hA [10] [0, 1, 2, 3, 4, 5, 6, 7, 8, 9] rfl rfl (by decide) (by decide) (fun _ => rfl) (fun u12 H locs hP hD hS => ?_)
  have hP : va_P (dC, dI) vwCl [(q0, .inr (3, [.ref u4.1.1, .ref u4.2.1, .int 0])), (u4.2.1, .inr (1, [.ref u4.1.1, .ref u4.2.2.1, .ref u4.2.2.2.1, .ref u4.2.2.2.2.1, .ref u4.2.2.2.2.2.1, .int (nI 0), .ref u4.2.2.2.2.2.2, .int (nI 0)])), (u4.2.2.1, .inr (0, [.int 0, .int 0, .long 0, .long 0, .long 0])), (u4.1.1, .inr (2, [.ref u4.1.2.1, .ref u4.1.2.2, .int (nI 0)])), (u4.1.2.1, .inl (cI, 20, .inl (fun _ => 0))), (u4.1.2.2, .inl (cI, 20, .inl (fun _ => 0))), (u4.2.2.2.1, .inl (cI, 105, .inl (fun j9 => nI ((fun _ => 0) j9)))), (u4.2.2.2.2.1, .inl (cI, 36, .inl (fun j9 => nI ((fun _ => 0) j9)))), (u4.2.2.2.2.2.1, .inl (cI, 400, .inl (fun _ => 0))), (u4.2.2.2.2.2.2, .inl (cI, 20, .inl (fun _ => 0))), (q8, .inr (4, [.int 0, .int (nI 0), .ref u12.1, .ref u12.2.1, .int 0, .int (nI 0), .ref u12.2.2.1, .ref u12.2.2.2.1, .ref u12.2.2.2.2.1, .int (nI 0), .ref u12.2.2.2.2.2])), (u12.1, .inl (cI, 20, .inl (fun _ => 0))), (u12.2.1, .inl (cI, 20, .inl (fun _ => 0))), (u12.2.2.1, .inl (cI, 60, .inl (fun j9 => nI ((fun _ => 0) j9)))), (u12.2.2.2.1, .inl (cI, 1200, .inl (fun j9 => nI ((fun _ => 0) j9)))), (u12.2.2.2.2.1, .inl (cI, 60, .inl (fun j9 => nI ((fun _ => 0) j9)))), (u12.2.2.2.2.2, .inl (cI, 20, .inl (fun j9 => nI ((fun _ => 0) j9))))] H := hP
  have hD : va_D A [(q0, .inr (3, [.ref u4.1.1, .ref u4.2.1, .int 0])), (u4.2.1, .inr (1, [.ref u4.1.1, .ref u4.2.2.1, .ref u4.2.2.2.1, .ref u4.2.2.2.2.1, .ref u4.2.2.2.2.2.1, .int (nI 0), .ref u4.2.2.2.2.2.2, .int (nI 0)])), (u4.2.2.1, .inr (0, [.int 0, .int 0, .long 0, .long 0, .long 0])), (u4.1.1, .inr (2, [.ref u4.1.2.1, .ref u4.1.2.2, .int (nI 0)])), (u4.1.2.1, .inl (cI, 20, .inl (fun _ => 0))), (u4.1.2.2, .inl (cI, 20, .inl (fun _ => 0))), (u4.2.2.2.1, .inl (cI, 105, .inl (fun j9 => nI ((fun _ => 0) j9)))), (u4.2.2.2.2.1, .inl (cI, 36, .inl (fun j9 => nI ((fun _ => 0) j9)))), (u4.2.2.2.2.2.1, .inl (cI, 400, .inl (fun _ => 0))), (u4.2.2.2.2.2.2, .inl (cI, 20, .inl (fun _ => 0))), (q8, .inr (4, [.int 0, .int (nI 0), .ref u12.1, .ref u12.2.1, .int 0, .int (nI 0), .ref u12.2.2.1, .ref u12.2.2.2.1, .ref u12.2.2.2.2.1, .int (nI 0), .ref u12.2.2.2.2.2])), (u12.1, .inl (cI, 20, .inl (fun _ => 0))), (u12.2.1, .inl (cI, 20, .inl (fun _ => 0))), (u12.2.2.1, .inl (cI, 60, .inl (fun j9 => nI ((fun _ => 0) j9)))), (u12.2.2.2.1, .inl (cI, 1200, .inl (fun j9 => nI ((fun _ => 0) j9)))), (u12.2.2.2.2.1, .inl (cI, 60, .inl (fun j9 => nI ((fun _ => 0) j9)))), (u12.2.2.2.2.2, .inl (cI, 20, .inl (fun j9 => nI ((fun _ => 0) j9))))] := hD
  refine W.eq (g2 := F0 m 15 ls [.ref q8]) rfl ?_
  refine lv_astore_n (lv' := [(2, .ref q8), (1, .ref q0), (0, .ref b)]) hx hb dL_law_15 rfl hl (by decide) rfl (fun ls hl => ?_)
  refine lv_iconst (v := nI 1) hx hb dL_law_16 (by decide) ?_
  refine q_newl (ws' := fun q17 => [(q0, .inr (3, [.ref u4.1.1, .ref u4.2.1, .int 0])), (u4.2.1, .inr (1, [.ref u4.1.1, .ref u4.2.2.1, .ref u4.2.2.2.1, .ref u4.2.2.2.2.1, .ref u4.2.2.2.2.2.1, .int (nI 0), .ref u4.2.2.2.2.2.2, .int (nI 0)])), (u4.2.2.1, .inr (0, [.int 0, .int 0, .long 0, .long 0, .long 0])), (u4.1.1, .inr (2, [.ref u4.1.2.1, .ref u4.1.2.2, .int (nI 0)])), (u4.1.2.1, .inl (cI, 20, .inl (fun _ => 0))), (u4.1.2.2, .inl (cI, 20, .inl (fun _ => 0))), (u4.2.2.2.1, .inl (cI, 105, .inl (fun j9 => nI ((fun _ => 0) j9)))), (u4.2.2.2.2.1, .inl (cI, 36, .inl (fun j9 => nI ((fun _ => 0) j9)))), (u4.2.2.2.2.2.1, .inl (cI, 400, .inl (fun _ => 0))), (u4.2.2.2.2.2.2, .inl (cI, 20, .inl (fun _ => 0))), (q8, .inr (4, [.int 0, .int (nI 0), .ref u12.1, .ref u12.2.1, .int 0, .int (nI 0), .ref u12.2.2.1, .ref u12.2.2.2.1, .ref u12.2.2.2.2.1, .int (nI 0), .ref u12.2.2.2.2.2])), (u12.1, .inl (cI, 20, .inl (fun _ => 0))), (u12.2.1, .inl (cI, 20, .inl (fun _ => 0))), (u12.2.2.1, .inl (cI, 60, .inl (fun j9 => nI ((fun _ => 0) j9)))), (u12.2.2.2.1, .inl (cI, 1200, .inl (fun j9 => nI ((fun _ => 0) j9)))), (u12.2.2.2.2.1, .inl (cI, 60, .inl (fun j9 => nI ((fun _ => 0) j9)))), (u12.2.2.2.2.2, .inl (cI, 20, .inl (fun j9 => nI ((fun _ => 0) j9)))), (q17, .inl (cJ, 1, .inr (.inl (fun _ => 0))))]) hx hb (hts (.arrayClass .long) (by decide +kernel)) hK 1 rfl hP hD hS hA (by decide) (Nat.le_of_ble_eq_true rfl) (Nat.le_of_ble_eq_true rfl) dL_law_17 (fun _ => rfl) (fun q17 H hP hD hS => ?_)
  have hP : va_P (dC, dI) vwCl [(q0, .inr (3, [.ref u4.1.1, .ref u4.2.1, .int 0])), (u4.2.1, .inr (1, [.ref u4.1.1, .ref u4.2.2.1, .ref u4.2.2.2.1, .ref u4.2.2.2.2.1, .ref u4.2.2.2.2.2.1, .int (nI 0), .ref u4.2.2.2.2.2.2, .int (nI 0)])), (u4.2.2.1, .inr (0, [.int 0, .int 0, .long 0, .long 0, .long 0])), (u4.1.1, .inr (2, [.ref u4.1.2.1, .ref u4.1.2.2, .int (nI 0)])), (u4.1.2.1, .inl (cI, 20, .inl (fun _ => 0))), (u4.1.2.2, .inl (cI, 20, .inl (fun _ => 0))), (u4.2.2.2.1, .inl (cI, 105, .inl (fun j9 => nI ((fun _ => 0) j9)))), (u4.2.2.2.2.1, .inl (cI, 36, .inl (fun j9 => nI ((fun _ => 0) j9)))), (u4.2.2.2.2.2.1, .inl (cI, 400, .inl (fun _ => 0))), (u4.2.2.2.2.2.2, .inl (cI, 20, .inl (fun _ => 0))), (q8, .inr (4, [.int 0, .int (nI 0), .ref u12.1, .ref u12.2.1, .int 0, .int (nI 0), .ref u12.2.2.1, .ref u12.2.2.2.1, .ref u12.2.2.2.2.1, .int (nI 0), .ref u12.2.2.2.2.2])), (u12.1, .inl (cI, 20, .inl (fun _ => 0))), (u12.2.1, .inl (cI, 20, .inl (fun _ => 0))), (u12.2.2.1, .inl (cI, 60, .inl (fun j9 => nI ((fun _ => 0) j9)))), (u12.2.2.2.1, .inl (cI, 1200, .inl (fun j9 => nI ((fun _ => 0) j9)))), (u12.2.2.2.2.1, .inl (cI, 60, .inl (fun j9 => nI ((fun _ => 0) j9)))), (u12.2.2.2.2.2, .inl (cI, 20, .inl (fun j9 => nI ((fun _ => 0) j9)))), (q17, .inl (cJ, 1, .inr (.inl (fun _ => 0))))] H := hP
  have hD : va_D A [(q0, .inr (3, [.ref u4.1.1, .ref u4.2.1, .int 0])), (u4.2.1, .inr (1, [.ref u4.1.1, .ref u4.2.2.1, .ref u4.2.2.2.1, .ref u4.2.2.2.2.1, .ref u4.2.2.2.2.2.1, .int (nI 0), .ref u4.2.2.2.2.2.2, .int (nI 0)])), (u4.2.2.1, .inr (0, [.int 0, .int 0, .long 0, .long 0, .long 0])), (u4.1.1, .inr (2, [.ref u4.1.2.1, .ref u4.1.2.2, .int (nI 0)])), (u4.1.2.1, .inl (cI, 20, .inl (fun _ => 0))), (u4.1.2.2, .inl (cI, 20, .inl (fun _ => 0))), (u4.2.2.2.1, .inl (cI, 105, .inl (fun j9 => nI ((fun _ => 0) j9)))), (u4.2.2.2.2.1, .inl (cI, 36, .inl (fun j9 => nI ((fun _ => 0) j9)))), (u4.2.2.2.2.2.1, .inl (cI, 400, .inl (fun _ => 0))), (u4.2.2.2.2.2.2, .inl (cI, 20, .inl (fun _ => 0))), (q8, .inr (4, [.int 0, .int (nI 0), .ref u12.1, .ref u12.2.1, .int 0, .int (nI 0), .ref u12.2.2.1, .ref u12.2.2.2.1, .ref u12.2.2.2.2.1, .int (nI 0), .ref u12.2.2.2.2.2])), (u12.1, .inl (cI, 20, .inl (fun _ => 0))), (u12.2.1, .inl (cI, 20, .inl (fun _ => 0))), (u12.2.2.1, .inl (cI, 60, .inl (fun j9 => nI ((fun _ => 0) j9)))), (u12.2.2.2.1, .inl (cI, 1200, .inl (fun j9 => nI ((fun _ => 0) j9)))), (u12.2.2.2.2.1, .inl (cI, 60, .inl (fun j9 => nI ((fun _ => 0) j9)))), (u12.2.2.2.2.2, .inl (cI, 20, .inl (fun j9 => nI ((fun _ => 0) j9)))), (q17, .inl (cJ, 1, .inr (.inl (fun _ => 0))))] := hD
  refine lv_astore_n (lv' := [(3, .ref q17), (2, .ref q8), (1, .ref q0), (0, .ref b)]) hx hb dL_law_19 rfl hl (by decide) rfl (fun ls hl => ?_)
  refine lv_iconst (v := nI 0) hx hb dL_law_20 (by decide) ?_
  refine lv_istore (lv' := [(4, .int (nI 0)), (3, .ref q17), (2, .ref q8), (1, .ref q0), (0, .ref b)]) hx hb dL_law_21 hl (by decide) rfl (fun ls hl => ?_)
  refine W.widen (k := 18 + 0) (n := 2012 + 6 * 0) (Nat.le_of_ble_eq_true rfl) (Nat.le_of_ble_eq_true rfl) ?_
  exact lw_loop (C := ⟨hst9, hx, hb, hml, hown, hts, hX, hbl, hbA, hK, hE, hNc, hL⟩) hr hlocks hAs (c0 := q0) (m0 := u4.2.1) (g0 := u4.2.2.1) (s0 := u4.1.1) (xa := u4.1.2.1) (ya := u4.1.2.2) (ra := u4.2.2.2.1) (sa := u4.2.2.2.2.1) (oa := u4.2.2.2.2.2.1) (ma := u4.2.2.2.2.2.2) (o0 := q8) (xb := u12.1) (yb := u12.2.1) (za := u12.2.2.1) (ua := u12.2.2.2.1) (wa := u12.2.2.2.2.1) (va := u12.2.2.2.2.2) (oj := q17) (L + 1) 0 (by omega) (by omega) (fun _ => 0) (fun _ => 0) 0 0 ((0, 0, 0, 0, 0), (fun _ => 0), (fun _ => 0), (fun _ => 0), 0) (fun _ => 0) 0 0 0 (fun _ => 0) (fun _ => 0) 0 (fun _ => 0) (fun _ => 0) 0 (fun _ => 0) H locs ls lw_LI0 hP hD hS (lv_sub hl [0, 1, 2, 3, 4] rfl)
