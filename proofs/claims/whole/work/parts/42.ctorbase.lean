/-! Constructors: what they want, what they leave; an array of ints whose kind is known. -/
def q_Pk (D : va_G) (av : List Value) (ws : va_W) (tys : List (ClassId × FieldType)) (sz : Nat) (X : State → Prop) : Array Value → State → Prop := va_Pc av (fun U => U.heap.size = sz ∧ va_P D vwCl ws U.heap ∧ va_K D vwCl tys U ∧ va_D (fun _ => True) ws ∧ X U)
def q_Qk {S : Type} (D : va_G) (A : Nat → Prop) (W2 : S → va_W) : Array Value → State → Outcome → State → Prop := va_Qv (fun _ : S => True) (fun u t => va_P D vwCl (W2 u) t.heap ∧ va_D A (W2 u)) A
/-- a premise that outlives a call -/
def q_lasts (X : State → Prop) : Prop := (∀ (u U : State), u.vm = U.vm → X u → X U) ∧ ∀ (s U : State), s.WarmedH U.vm → X s → X U
def q_nest1 (U : State) : Prop := va_Nw (.methodLinkNest RX1 11 yX0_init "CircleCells") U
def q_nest3 (U : State) : Prop := va_Nw (.methodLinkNest RX3 11 yX2_init "CircleCells") U ∧ q_nest1 U
theorem q_lasts_t : q_lasts (fun _ => True) := ⟨fun _ _ _ h => h, fun _ _ _ h => h⟩
theorem q_lasts_1 : q_lasts q_nest1 := ⟨fun _ _ hv h => va_Nw.same rfl hv h, fun _ _ hW h => va_Nw.warmM hW h⟩
theorem q_lasts_3 : q_lasts q_nest3 := ⟨fun _ _ hv h => ⟨va_Nw.same rfl hv h.1, q_lasts_1.1 _ _ hv h.2⟩, fun _ _ hW h => ⟨va_Nw.warmM hW h.1, q_lasts_1.2 _ _ hW h.2⟩⟩
section QK
variable {p : Program} {l : Launch} {e : Env} {R : Room} {s : State} {m : MethodId} {args : Array Value} {below : List Frame} {meth : Method} {c : Code} {H : Heap} {locs : List Loc} {cells slots : Nat} {Q : State → Prop}
variable {cc : ByteArray} {pc : Nat} {ls : Array Slot} {rest st0 : List Value} {D : va_G} {A : Nat → Prop} {a : Nat} {tys tysc : List (ClassId × FieldType)} {ws wc wr : va_W} {H0 : Heap}
theorem q_newi (hexec : p.tables.exec = Jvm.exec) (hb : c.code = cc) (harr : (Cond.arrayClass .int).before args s = true) (hK : va_K D vwCl tys s) {cI : ClassId} (t0 : Nat) (ht : tys[t0]? = some (cI, .int)) (hP : va_P D vwCl ws H) (hD : va_D A ws) (hS : va_S A H0 H locs) (hA : ∀ q, H0.size ≤ q → A q) {n : Nat} (hn : n ≤ 2000) (hcells : cells + 1 ≤ R.cells) (hslots : slots + n ≤ R.slots) (hdg : decode cc pc = .ok (.newarray .int, 2)) {ws' : Nat → va_W} (hw : ∀ q, ws ++ [(q, .inl (cI, n, .inl (fun _ => 0)))] = ws' q)
    (kk : ∀ (q : Nat) (H1 : Heap), va_P D vwCl (ws' q) H1 → va_D A (ws' q) → va_S A H0 H1 locs → W p l e R s m args below meth c H1 locs (cells + 1) (slots + n) Q (F0 m (pc + 2) ls (.ref q :: rest))) : W p l e R s m args below meth c H locs cells slots Q (F0 m pc ls (.int (nI n) :: rest)) := by
  refine va_newa (atype := .int) (N' := n) (a0 := (n, .inl (fun _ => 0))) hexec hb harr (ty := .int) rfl hK hP hD hS hA (fun cA => rfl) (nI_pos (by omega)) (nI_clamp (by omega)) (by show n * 4 ≤ 536870912; omega) hcells hslots hdg (fun q cA H1 hK1 hP1 hD1 hS1 => ?_)
  have h1 : va_RA s cI .int := (hK.2 t0 _ ht).2
  have h2 : va_RA s cA .int := (hK1.2 tys.length (cA, .int) (by simp)).2
  have h3 : cA = cI := Option.some.inj (Eq.trans (Eq.symm h2) h1)
  subst h3
  rw [hw q] at hP1 hD1
  exact kk q H1 hP1 hD1 hS1
theorem q_pk {av As : List Value} {X : State → Prop} (hX : q_lasts X) (hXs : X s) (hK : va_K D vwCl tys s) (hP : va_P D vwCl ws H) (hD : va_D A ws) (is js : List Nat) (hC : is.map (fun i => ws[i]?) = wc.map some) (hnd : va_nd is = true) (hj : js.filterMap (fun i => tys[i]?) = tysc) (hav : As = av) : PreS s H (q_Pk D av wc tysc H.size X) As := by
  subst hav
  refine ⟨fun a U g mk q => ?_, fun U hU hW => ⟨rfl, by rw [hU], by rw [hU]; exact hP.sub is (q_sub hC), va_K.moved hW.alike (hK.sub js hj), (hD.sub is hnd hC).weaken (fun _ _ _ _ => trivial), hX.2 _ _ hW hXs⟩⟩
  obtain ⟨q0, q1, qP, qK, qD, qX⟩ := q
  exact ⟨q0, q1, qP, va_K.moved (u := U) (U := U.calling g mk a) (Vm.Alike.refl U.vm) qK, qD, hX.1 U (U.calling g mk a) rfl qX⟩
theorem q_kI {S : Type} {W2 : S → va_W} {mc ms : Nat} {av : Array Value} (hr : va_Run p l e R s m args below meth c H locs cells slots mc ms (F0 m pc ls st0) rest (q_Qk D (va_A wc H.size) W2 av) (va_A wc H.size)) (hP : va_P D vwCl ws H) (hD : va_D A ws) (hS : va_S A H0 H locs) (hA : ∀ q, H0.size ≤ q → A q) (isC isR : List Nat) (hC : isC.map (fun i => ws[i]?) = wc.map some) (hR : isR.map (fun i => ws[i]?) = wr.map some) (hn : va_nd isR = true) (hdis : ∀ i ∈ isR, i ∉ isC) {wN : S → va_W} (hw : ∀ u, wr ++ W2 u = wN u)
    (kk : ∀ (u : S) (H1 : Heap) (locs1 : List Loc), va_P D vwCl (wN u) H1 → va_D A (wN u) → va_S A H0 H1 locs1 → W p l e R s m args below meth c H1 locs1 (cells + mc) (slots + ms) Q (F0 m (pc + 3) ls rest)) : W p l e R s m args below meth c H locs cells slots Q (F0 m pc ls st0) := by
  have hFc := va_free (wc := wc) hD hS hA isC hC
  refine va_callv hr hS (fun q _ h => hFc q h) hFc (fun u t H1 locs1 ht hvm _ hB hz1 hk1 hS1 => ?_)
  obtain ⟨hP1, hD1⟩ := hB
  rw [ht] at hP1
  obtain ⟨hP2, hD2⟩ := va_join (wr := wr) (w1 := W2 u) hP hD isC isR hC hR hn hdis hk1 hFc hP1 hD1
  rw [hw u] at hP2 hD2
  exact kk u H1 locs1 hP2 hD2 hS1
end QK
theorem q_retk {S : Type} {s : State} {D : va_G} {A : Nat → Prop} {H : Heap} {locs : List Loc} {W2 : S → va_W} {args : Array Value} (u : S) (hP : va_P D vwCl (W2 u) H) (hD : va_D A (W2 u)) (hS : va_S A s.heap H locs) : ∀ t : State, t.heap = H → s.WarmedH t.vm → q_Qk D A W2 args s (.returned none) t := fun t ht _ => ⟨⟨u, rfl, trivial, by rw [ht]; exact hP, hD⟩, hS.F ht⟩
