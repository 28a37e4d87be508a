/-! The law's own methods: what they want, their catching, and a call of one. -/
def q_nc (U : State) : Prop := va_Nc q_IS q_IA U ∧ va_Nc q_IO q_NE U ∧ va_Nc q_IA q_NE U
theorem q_nc.moved {u U : State} (hvm : u.vm.Alike U.vm) (h : q_nc u) : q_nc U := ⟨h.1.moved hvm, h.2.1.moved hvm, h.2.2.moved hvm⟩
def q_Py (D : va_G) (av : List Value) (ws : va_W) (tys : List (ClassId × FieldType)) : Array Value → State → Prop := va_Pc av (fun U => va_P D vwCl ws U.heap ∧ va_K D vwCl tys U ∧ va_D (fun _ => True) ws ∧ q_E (q_in ws) U U.heap ∧ q_nc U)
section QL
variable {p : Program} {l : Launch} {e : Env} {R : Room} {s : State} {m : MethodId} {args : Array Value} {below : List Frame} {meth : Method} {c : Code} {H : Heap} {locs : List Loc} {cells slots : Nat} {Q : State → Prop}
variable {cc : ByteArray} {pc : Nat} {ls : Array Slot} {rest st0 : List Value} {D : va_G} {A : Nat → Prop} {a : Nat} {tys tysc : List (ClassId × FieldType)} {ws wc wc' wsN : va_W} {H0 : Heap}
theorem q_blindy {av : List Value} : FrameBlind (q_Py D av ws tys) := fun a U g mk q => by
  obtain ⟨q0, qP, qK, qD, qE, qN⟩ := q
  exact ⟨q0, qP, va_K.moved (u := U) (U := U.calling g mk a) (Vm.Alike.refl U.vm) qK, qD, q_E.same (u := U) (U := U.calling g mk a) rfl qE, q_nc.moved (u := U) (U := U.calling g mk a) (Vm.Alike.refl U.vm) qN⟩
theorem q_hit {own E : String} {pl : Platform} {cl thrown : ClassId} {x : ExceptionTableEntry} {t : List ExceptionTableEntry} (hpl : pl.magicAccessors = ({} : Platform).magicAccessors) (hown : s.vm.findClass own = some cl) (hx : covers x pc = true) (h0 : ¬ x.catchType = 0) (hlink : (Cond.classLink own x.catchType E).before args s = true) (hcast : va_Nw (.castable E E) s) (hcl : s.vm.findClass E = some thrown) : q_rows pl s cl pc thrown (x :: t) x.handlerPc := by
  obtain ⟨c3, c4, hc3, hc4, hasg⟩ := Cond.castable_spec hcast
  cases Option.some.inj (hc3.symm.trans hcl)
  cases Option.some.inj (hc4.symm.trans hcl)
  obtain ⟨c5, hc5, hcl5⟩ := Cond.classLink_spec hown hlink pl hpl
  cases Option.some.inj (hc5.symm.trans hcl)
  exact ⟨hx, h0, _, hcl5, Or.inl ⟨hasg, rfl⟩⟩
theorem q_pass {own E nm : String} {pl : Platform} {cl thrown : ClassId} {x : ExceptionTableEntry} {t : List ExceptionTableEntry} {h : Nat} (hpl : pl.magicAccessors = ({} : Platform).magicAccessors) (hown : s.vm.findClass own = some cl) (hx : covers x pc = true) (h0 : ¬ x.catchType = 0) (hlink : (Cond.classLink own x.catchType nm).before args s = true) (hno : va_Nc E nm s) (hcl : s.vm.findClass E = some thrown) (hrest : q_rows pl s cl pc thrown t h) : q_rows pl s cl pc thrown (x :: t) h := by
  obtain ⟨c3, c4, hc3, hc4, hasg⟩ := hno
  cases Option.some.inj (hc3.symm.trans hcl)
  obtain ⟨c5, hc5, hcl5⟩ := Cond.classLink_spec hown hlink pl hpl
  cases Option.some.inj (hc5.symm.trans hc4)
  exact ⟨hx, h0, _, hcl5, Or.inr ⟨hasg, hrest⟩⟩
theorem q_catchL {h : Nat} {E : String} {ce : Cell} {q : Addr} (hrows : e.platform.magicAccessors = ({} : Platform).magicAccessors → q_rows e.platform s m.cls pc ce.cls c.exceptionTable.toList h) (hcell : H[q]? = some ce) (hv : ce.vm = .none) (hcl : s.vm.findClass E = some ce.cls)
    (kk : W p l e R s m args below meth c H locs cells slots Q (F0 m h ls [.ref q])) : vx_W p l e R s m args below meth c H locs cells slots Q (F0 m pc ls rest) q :=
  fun T hT X => q_catch (hrows (by rw [X.admits.platform])) hcell hv hcl kk T hT X
/-- a call of one of the law's own methods -/
theorem q_lS {y : MethodName} {bytes : ByteArray} {maxL nL n index : Nat} {ret : Option FieldType} {hh : List (Nat × Nat × Nat × Nat)} {wsy : List Cond} {rm : Room} {Ts : List Cond} {own : String} {As av : List Value} {rv : Option Value}
    (S : CallFix p m c cc nL s args Ts own) (hM : Met l y wsy rm (q_Py D av wc tysc) (q_Qm D (q_in wc) rv wc') 1 6 (q_in wc)) (cw : vx_CSW R s args own index y bytes maxL ret hh wsy rm 1 6 n)
    (hE : q_E A s s.heap) (hN : q_nc s) (hK : va_K D vwCl tys s) (hP : va_P D vwCl ws H) (hD : va_D A ws) (hS : va_S A s.heap H locs) (is js : List Nat) (hC : is.map (fun i => ws[i]?) = wc.map some) (hnd : va_nd is = true) (hj : js.filterMap (fun i => tys[i]?) = tysc) (hav : As = av) (hadr : wc'.map (·.1) = wc.map (·.1))
    (hn : As.length = n) (hl : ls.size = nL) (hst : st0 = As.reverse ++ rest) (hW : (rest.map fun v => v.category).sum ≤ 8) (hf : cells + 1 ≤ R.cells ∧ slots + 6 ≤ R.slots) (hdg : decode cc pc = .ok (.invokestatic index, 3)) (hw : q_put ws is wc' = wsN)
    (kk : ∀ (H1 : Heap) (locs1 : List Loc), va_P D vwCl wsN H1 → va_D A wsN → va_S A s.heap H1 locs1 → W p l e R s m args below meth c H1 locs1 (cells + 1) (slots + 6) Q (F0 m (pc + 3) ls (rv.toList ++ rest))) : W p l e R s m args below meth c H locs cells slots Q (F0 m pc ls st0) := by
  subst hav
  subst hw
  intro T hT X
  have hp : PreS s H (q_Py D As wc tysc) As := ⟨q_blindy, fun U hU hW => ⟨rfl, by rw [hU]; exact hP.sub is (q_sub hC), va_K.moved hW.alike (hK.sub js hj), (hD.sub is hnd hC).weaken (fun _ _ _ _ => trivial), hE.at hW hU hS (q_inA hD hC), hN.moved hW.alike⟩⟩
  obtain ⟨v, st₀, t, T', L, h0, X', hL, e1, e2, ⟨hv, hP1, hF⟩, st⟩ := vx_runSW (locs := locs) S hM cw hp rfl hn hl hst (lv_room hW) hdg hf T hT X
  cases hv
  obtain ⟨a1, a2, a3⟩ := q_afterm h0 e1 hP hD hS is hC hadr hL hP1 hF
  obtain ⟨t2, b1, b2⟩ := kk T'.heap (locs ++ L) a1 a2 a3 T' rfl X'
  exact ⟨t2, st t2 b1, b2⟩
end QL
