/-! A callee's throw, caught in a table whose rows all cover the place: the first row whose class takes the object. -/
section QC
theorem q_row {e : Env} {S : State} {f : JFrame} {a : Addr} {x : ExceptionTableEntry} {t : List ExceptionTableEntry} {k : ClassId} {ce : Cell} (hx : covers x f.pc = true) (h0 : ¬ x.catchType = 0) (hl : S.vm.ClassLinks e.platform f.method.cls x.catchType k) (hce : S.heap[a]? = some ce) (hob : ∀ j, ce.vm ≠ .statics j) (hk1 : ∃ z, S.vm.classes[ce.cls]? = some z) (hk2 : ∃ z, S.vm.classes[k]? = some z) (Q : Handler → Pre) (E : CtlPost) (d : Bool) (acts : List Action) :
    Sem.wp (findHandler.go f a (x :: t)) Q E e d acts S ↔ if S.vm.assignable ce.cls k = true then Q (.found x.handlerPc) d acts (S.setVm (S.vm.noted f.method.cls x.catchType (.cls k))) else Sem.wp (findHandler.go f a t) Q E e d acts (S.setVm (S.vm.noted f.method.cls x.catchType (.cls k))) := by
  have hal : S.vm.Alike (S.vm.noted f.method.cls x.catchType (.cls k)) := (Vm.Alike.refl S.vm).noted _ _ _
  obtain ⟨z1, hz1⟩ := hk1
  obtain ⟨z2, hz2⟩ := hk2
  obtain ⟨w1, hw1, -⟩ := hal.2.2 _ _ hz1
  obtain ⟨w2, hw2, -⟩ := hal.2.2 _ _ hz2
  have has : (S.vm.noted f.method.cls x.catchType (.cls k)).assignable ce.cls k = S.vm.assignable ce.cls k := hal.assignable _ _
  obtain ⟨g1, g2⟩ := (resolveClass_links e.toSetting hl).op (op := VmOp.resolveClass f.method.cls x.catchType) rfl
  simp only [covers] at hx
  cases hb : S.vm.assignable ce.cls k with
  | true => simp [findHandler.go, hx, h0, g1, g2, hce, hob, hw1, hw2, has, hb, VmOp.dirties, VmOp.acts]
  | false => simp [findHandler.go, hx, h0, g1, g2, hce, hob, hw1, hw2, has, hb, VmOp.dirties, VmOp.acts]
/-- the rows of a table, one behind another, with the row that takes the thrown object's class -/
def q_rows (pl : Platform) (s : State) (own : ClassId) (pc : Nat) (thrown : ClassId) : List ExceptionTableEntry → Nat → Prop
  | [], _ => False
  | x :: t, h => covers x pc = true ∧ ¬ x.catchType = 0 ∧ ∃ k, s.vm.ClassLinks pl own x.catchType k ∧ ((s.vm.assignable thrown k = true ∧ h = x.handlerPc) ∨ (s.vm.assignable thrown k = false ∧ q_rows pl s own pc thrown t h))
theorem q_search {e : Env} {s : State} {f : JFrame} {a : Addr} {ce : Cell} (hob : ∀ j, ce.vm ≠ .statics j) (hk : ∃ z, s.vm.classes[ce.cls]? = some z) {h : Nat} : ∀ (t : List ExceptionTableEntry) (S : State), s.WarmedH S.vm → S.heap[a]? = some ce → q_rows e.platform s f.method.cls f.pc ce.cls t h → ∃ v, s.WarmedH v ∧ ∀ (Q : Handler → Pre) (E : CtlPost) (d : Bool) (acts : List Action), Sem.wp (findHandler.go f a t) Q E e d acts S ↔ Q (.found h) d acts (S.setVm v) := by
  intro t
  induction t with
  | nil => intro S _ _ hr; exact hr.elim
  | cons x t ih =>
    intro S hW hce hr
    obtain ⟨hx, h0, k, hl, hcase⟩ := hr
    obtain ⟨dk, _, _, kt, hdk, _, _, _, _, hkt, _, hop⟩ := hl.here
    obtain ⟨z, hz⟩ := hk
    obtain ⟨z', hz', -⟩ := hW.alike.2.2 _ _ hz
    obtain ⟨kt', hkt', -⟩ := hW.alike.2.2 _ _ hkt
    have hW2 : s.WarmedH (S.vm.noted f.method.cls x.catchType (.cls k)) := hW.noted hdk hop (State.rightAt_cls hl)
    have has : S.vm.assignable ce.cls k = s.vm.assignable ce.cls k := hW.alike.assignable _ _
    have hrow := fun Q E d acts => q_row (t := t) hx h0 (hW.classLinks hl) hce hob ⟨z', hz'⟩ ⟨kt', hkt'⟩ Q E d acts
    rcases hcase with ⟨c1, rfl⟩ | ⟨c1, c2⟩
    · refine ⟨_, hW2, fun Q E d acts => ?_⟩
      rw [hrow Q E d acts, has, if_pos c1]
    · obtain ⟨v, hv, hq⟩ := ih (S.setVm (S.vm.noted f.method.cls x.catchType (.cls k))) hW2 hce c2
      refine ⟨v, hv, fun Q E d acts => ?_⟩
      rw [hrow Q E d acts, has, if_neg (by rw [c1]; exact fun h9 => Bool.noConfusion h9), hq Q E d acts]
      exact Iff.rfl
variable {p : Program} {l : Launch} {e : Env} {R : Room} {s : State} {m : MethodId} {args : Array Value} {below : List Frame} {meth : Method} {c : Code} {H : Heap} {locs : List Loc} {cells slots : Nat} {Q : State → Prop}
theorem q_catch {pc h : Nat} {ls : Array Slot} {rest : List Value} {E : String} {ce : Cell} {q : Addr} (hrows : q_rows e.platform s m.cls pc ce.cls c.exceptionTable.toList h) (hcell : H[q]? = some ce) (hv : ce.vm = .none) (hcl : s.vm.findClass E = some ce.cls)
    (kk : W p l e R s m args below meth c H locs cells slots Q (F0 m h ls [.ref q])) : vx_W p l e R s m args below meth c H locs cells slots Q (F0 m pc ls rest) q := by
  intro T hT X
  obtain ⟨z, hz, -⟩ := Vm.findClass_spec hcl
  obtain ⟨v, hW, hq⟩ := q_search (e := e) (s := s) (f := F0 m pc ls rest) (a := q) (ce := ce) (by rw [hv]; intro j h9; cases h9) ⟨z, hz⟩ c.exceptionTable.toList ((T.setTop (F0 m pc ls rest)).pushFrame (.throwing q)) X.warmed (by rw [← hT] at hcell; exact hcell) hrows
  have hfind : ∀ (Q : Handler → Pre) (E : CtlPost) (d : Bool) (acts : List Action), Sem.wp (findHandler (F0 m pc ls rest) q) Q E e d acts ((T.setTop (F0 m pc ls rest)).pushFrame (.throwing q)) ↔ Q (.found h) d acts (((T.setTop (F0 m pc ls rest)).pushFrame (.throwing q)).setVm v) := fun Q E d acts => by
    rw [W.findHandler_eq (meth := meth) (code := c) X.method' X.code]
    exact hq Q E d acts
  obtain ⟨t, b1, b2⟩ := kk (T.setVm v) hT (X.noted hW)
  refine ⟨t, ?_, b2⟩
  have hh : At T (F0 m pc ls rest).method c below := X.here
  obtain ⟨hgo, hwi⟩ := hh.throwing q
  refine Steps.head hgo hwi ?_
  obtain ⟨g0, hfr⟩ := X.frames_eq
  have hfr' : (T.setVm v).frames = .java g0 :: below := hfr
  have hstep : (stepThrowing e ((T.setTop (F0 m pc ls rest)).pushFrame (.throwing q)) q (.java (F0 m pc ls rest) :: T.frames.tail)).Is ((((T.setTop (F0 m pc ls rest)).pushFrame (.throwing q)).setVm v).setFrames (.java (F0 m h ls [.ref q]) :: T.frames.tail)) [] := by
    simp only [stepThrowing, searchFrame, vmDo]
    generalize hr : Sem.go _ e false [] ((T.setTop (F0 m pc ls rest)).pushFrame (.throwing q)) = res
    obtain ⟨as, rfl, ha⟩ := Sem.eq_ok_of hr (a := Handler.found h) (s' := ((T.setTop (F0 m pc ls rest)).pushFrame (.throwing q)).setVm v) (acts' := []) (by simp [hfind _ _ _ _])
    exact ⟨rfl, ha⟩
  rw [stepThread_throwing (frames_entered hh.top _), hstep.1]
  have e1 : (((T.setTop (F0 m pc ls rest)).pushFrame (.throwing q)).setVm v).setFrames (.java (F0 m h ls [.ref q]) :: T.frames.tail) = (T.setVm v).setTop (F0 m h ls [.ref q]) := by
    rw [State.setTop_of_frames _ hfr', hfr, List.tail_cons, State.pushFrame, State.setTop_of_frames _ hfr]
    show (((T.setFrames _).setFrames _).setVm v).setFrames _ = _
    rw [State.setFrames_setFrames]
    show ((T.setVm v).setFrames _).setFrames _ = _
    rw [State.setFrames_setFrames]
  rw [e1]
  exact b1
end QC
