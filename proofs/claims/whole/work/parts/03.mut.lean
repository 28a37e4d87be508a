/-! Writing methods: the same cells behind them, with other contents. -/
/-- the addresses of a world -/
def q_in (ws : va_W) : Nat → Prop := fun a => ∃ (k : Nat) (e : va_E), ws[k]? = some (a, e)
def q_Pm (D : va_G) (av : List Value) (ws : va_W) (tys : List (ClassId × FieldType)) : Array Value → State → Prop := va_Pc av (fun U => va_P D vwCl ws U.heap ∧ va_K D vwCl tys U ∧ va_D (fun _ => True) ws)
def q_Qm (D : va_G) (A : Nat → Prop) (rv : Option Value) (ws : va_W) : Array Value → State → Outcome → State → Prop := fun _ st o t => o = .returned rv ∧ va_P D vwCl ws t.heap ∧ va_F A st t
theorem q_inD {A : Nat → Prop} {ws : va_W} (h : va_D A ws) : va_D (q_in ws) ws := ⟨h.1, fun k q hk => ⟨k, q.2, hk⟩⟩
/-- cells put at their places -/
def q_put : va_W → List Nat → va_W → va_W
  | ws, i :: is, w :: wc => q_put (ws.set i w) is wc
  | ws, _, _ => ws
theorem q_put_get : ∀ (is : List Nat) (ws wc : va_W) (k : Nat) (q : Nat × va_E), (q_put ws is wc)[k]? = some q → (∃ j : Nat, is[j]? = some k ∧ wc[j]? = some q) ∨ (ws[k]? = some q ∧ ∀ j : Nat, j < wc.length → is[j]? ≠ some k)
  | [], ws, wc, k, q, h => Or.inr ⟨by simpa [q_put] using h, fun j _ => by simp⟩
  | i :: is, ws, [], k, q, h => Or.inr ⟨h, fun j hj => by simp at hj⟩
  | i :: is, ws, w :: wc, k, q, h => by
    rcases q_put_get is (ws.set i w) wc k q h with ⟨j, h1, h2⟩ | ⟨h1, h2⟩
    · exact Or.inl ⟨j + 1, by simpa using h1, by simpa using h2⟩
    · by_cases hk : k = i
      · subst hk
        have hl : k < ws.length := by
          have := (List.getElem?_eq_some_iff.mp h1).1
          simpa using this
        rw [List.getElem?_set_self hl] at h1
        exact Or.inl ⟨0, rfl, h1⟩
      · rw [List.getElem?_set_ne (Ne.symm hk)] at h1
        refine Or.inr ⟨h1, fun j hj => ?_⟩
        cases j with
        | zero => simp; exact fun h => hk h.symm
        | succ j =>
          have := h2 j (by simp at hj; omega)
          simpa using this
theorem q_at {ws wc : va_W} {is : List Nat} (hC : is.map (fun i => ws[i]?) = wc.map some) (j : Nat) (q : Nat × va_E) (hq : wc[j]? = some q) : ∃ i, is[j]? = some i ∧ ws[i]? = some q := by
  have h1 : (is.map (fun i => ws[i]?))[j]? = some (some q) := by rw [hC, List.getElem?_map, hq]; rfl
  rw [List.getElem?_map] at h1
  cases hi : is[j]? with
  | none => rw [hi] at h1; cases h1
  | some i => rw [hi] at h1; exact ⟨i, rfl, Option.some.inj h1⟩
theorem q_join {A : Nat → Prop} {D : va_G} {ws wc wc' : va_W} {H H1 : Heap} (hP : va_P D vwCl ws H) (hD : va_D A ws) (is : List Nat) (hC : is.map (fun i => ws[i]?) = wc.map some) (hadr : wc'.map (·.1) = wc.map (·.1))
    (hk : ∀ q : Nat, q < H.size → ¬ q_in wc q → H1[q]? = H[q]?) (hP1 : va_P D vwCl wc' H1) : va_P D vwCl (q_put ws is wc') H1 ∧ va_D A (q_put ws is wc') := by
  have hlen : wc'.length = wc.length := by simpa using congrArg List.length hadr
  have key : ∀ (k : Nat) (q : Nat × va_E), (q_put ws is wc')[k]? = some q → ∃ q0, ws[k]? = some q0 ∧ q0.1 = q.1 := by
    intro k q hq
    rcases q_put_get is ws wc' k q hq with ⟨j, h1, h2⟩ | ⟨h1, -⟩
    · have hj : j < wc.length := by rw [← hlen]; exact (List.getElem?_eq_some_iff.mp h2).1
      have h3 : wc[j]? = some wc[j] := List.getElem?_eq_getElem hj
      obtain ⟨i, h4, h5⟩ := q_at hC j _ h3
      have h6 : i = k := by rw [h1] at h4; exact (Option.some.inj h4).symm
      subst h6
      refine ⟨_, h5, ?_⟩
      have h7 := congrArg (fun l => l[j]?) hadr
      simp only [List.getElem?_map, h2, h3, Option.map_some] at h7
      exact (Option.some.inj h7).symm
    · exact ⟨q, h1, rfl⟩
  refine ⟨fun k q hq => ?_, fun i j x y hx hy hxy => ?_, fun k q hq => ?_⟩
  · rcases q_put_get is ws wc' k q hq with ⟨j, h1, h2⟩ | ⟨h1, h2⟩
    · exact hP1 j q h2
    · have h3 := hP k q h1
      refine h3.kept (hk q.1 h3.lt ?_)
      rintro ⟨j, e, he⟩
      obtain ⟨i, h4, h5⟩ := q_at hC j _ he
      have h6 := hD.1 k i q (q.1, e) h1 h5 rfl
      subst h6
      exact h2 j (by rw [hlen]; exact (List.getElem?_eq_some_iff.mp he).1) h4
  · obtain ⟨x0, a1, a2⟩ := key i x hx
    obtain ⟨y0, b1, b2⟩ := key j y hy
    exact hD.1 i j x0 y0 a1 b1 (a2.trans (hxy.trans b2.symm))
  · obtain ⟨q0, a1, a2⟩ := key k q hq
    rw [← a2]
    exact hD.2 k q0 a1
section QM
variable {p : Program} {l : Launch} {e : Env} {R : Room} {s : State} {m : MethodId} {args : Array Value} {below : List Frame} {meth : Method} {c : Code} {H : Heap} {locs : List Loc} {cells slots : Nat} {Q : State → Prop}
variable {cc : ByteArray} {pc : Nat} {ls : Array Slot} {rest st0 : List Value} {D : va_G} {A : Nat → Prop} {a : Nat} {tys tysc : List (ClassId × FieldType)} {ws wc wc' wsN : va_W} {H0 : Heap}
theorem q_blindm {av : List Value} : FrameBlind (q_Pm D av ws tys) := fun a U g mk q => by
  obtain ⟨q0, qP, qK, qD⟩ := q
  exact ⟨q0, qP, va_K.moved (u := U) (U := U.calling g mk a) (Vm.Alike.refl U.vm) qK, qD⟩
theorem q_sub {is : List Nat} (hC : is.map (fun i => ws[i]?) = wc.map some) : is.filterMap (fun i => ws[i]?) = wc := by
  have h : is.filterMap (fun i => ws[i]?) = (is.map (fun i => ws[i]?)).filterMap id := by rw [List.filterMap_map]; rfl
  rw [h, hC, List.filterMap_map]
  exact List.filterMap_some
theorem q_afterm {st₀ t T' : State} {L : List Loc} (h0 : st₀.heap = H) (e1 : T'.heap = t.heap) (hP : va_P D vwCl ws H) (hD : va_D A ws) (hS : va_S A H0 H locs) (is : List Nat) (hC : is.map (fun i => ws[i]?) = wc.map some) (hadr : wc'.map (·.1) = wc.map (·.1)) (hL : ∀ q ∈ L, q_in wc q.base) (hP1 : va_P D vwCl wc' t.heap) (hF : va_F (q_in wc) st₀ t) :
    va_P D vwCl (q_put ws is wc') T'.heap ∧ va_D A (q_put ws is wc') ∧ va_S A H0 T'.heap (locs ++ L) := by
  subst h0
  rw [e1]
  obtain ⟨h1, h2⟩ := q_join hP hD is hC hadr (fun q h1 h2 => hF.2 q h1 h2) hP1
  have hin : ∀ q, q_in wc q → A q := by
    rintro q ⟨k, e, hk⟩
    obtain ⟨i, -, h5⟩ := q_at hC k _ hk
    exact hD.2 i _ h5
  refine ⟨h1, h2, Nat.le_trans hS.1 hF.1, fun q h3 h4 => ?_, fun q hq => ?_⟩
  · rw [hF.2 q (Nat.lt_of_lt_of_le h3 hS.1) (fun h => h4 (hin q h))]
    exact hS.2.1 q h3 h4
  · rcases List.mem_append.mp hq with h | h
    · exact hS.2.2 q h
    · exact hin _ (hL q h)
/-- a call of a writing method -/
theorem q_mV {y : MethodName} {bytes : ByteArray} {maxL nL n index : Nat} {ret : Option FieldType} {wsy : List Cond} {rm : Room} {Ts : List Cond} {own C : String} {b : Addr} {As av : List Value} {rv : Option Value} {q : vw_C} {fs : List Value}
    (S : CallFix p m c cc nL s args Ts own) (hM : Met l y wsy rm (q_Pm D av wc tysc) (q_Qm D (q_in wc) rv wc') 0 0 (q_in wc)) (cw : CallW R s args own C index y bytes maxL ret wsy rm 0 0 n)
    (hK : va_K D vwCl tys s) (hP : va_P D vwCl ws H) (hD : va_D A ws) (hS : va_S A H0 H locs) (is js : List Nat) (ci q0 : Nat) (hC : is.map (fun i => ws[i]?) = wc.map some) (hnd : va_nd is = true) (hj : js.filterMap (fun i => tys[i]?) = tysc) (hav : .ref b :: As = av) (hc : vwCl[ci]? = some q) (hCn : q.1 = C) (he : ws[q0]? = some (b, .inr (ci, fs))) (hadr : wc'.map (·.1) = wc.map (·.1))
    (hn : As.length = n) (hl : ls.size = nL) (hst : st0 = As.reverse ++ .ref b :: rest) (hW : (rest.map fun v => v.category).sum ≤ 8) (hf : cells ≤ R.cells ∧ slots ≤ R.slots) (hdg : decode cc pc = .ok (.invokevirtual index, 3)) (hw : q_put ws is wc' = wsN)
    (kk : ∀ (H1 : Heap) (locs1 : List Loc), va_P D vwCl wsN H1 → va_D A wsN → va_S A H0 H1 locs1 → W p l e R s m args below meth c H1 locs1 cells slots Q (F0 m (pc + 3) ls (rv.toList ++ rest))) : W p l e R s m args below meth c H locs cells slots Q (F0 m pc ls st0) := by
  subst hav
  subst hCn
  subst hw
  intro T hT X
  have hp : PreV s H q.1 b (q_Pm D (.ref b :: As) wc tysc) As := ⟨q_blindm, va_recv hK hP hc he, fun U hU hW => ⟨rfl, by rw [hU]; exact hP.sub is (q_sub hC), va_K.moved hW.alike (hK.sub js hj), (hD.sub is hnd hC).weaken (fun _ _ _ _ => trivial)⟩⟩
  obtain ⟨v, st₀, t, T', L, h0, X', hL, e1, ⟨hv, hP1, hF⟩, st⟩ := W.runV (locs := locs) S hM cw hp rfl hn hl hst (lv_room hW) hdg hf T hT X
  cases hv
  obtain ⟨a1, a2, a3⟩ := q_afterm h0 e1 hP hD hS is hC hadr hL hP1 hF
  obtain ⟨t2, b1, b2⟩ := kk T'.heap (locs ++ L) a1 a2 a3 T' rfl X'
  exact ⟨t2, st t2 b1, b2⟩
theorem q_mS {y : MethodName} {bytes : ByteArray} {maxL nL n index : Nat} {ret : Option FieldType} {wsy : List Cond} {rm : Room} {Ts : List Cond} {own : String} {As av : List Value} {rv : Option Value}
    (S : CallFix p m c cc nL s args Ts own) (hM : Met l y wsy rm (q_Pm D av wc tysc) (q_Qm D (q_in wc) rv wc') 0 0 (q_in wc)) (cw : CallB R s args own index y bytes maxL ret wsy rm 0 0 n ∧ (Cond.static y).before args s = true)
    (hK : va_K D vwCl tys s) (hP : va_P D vwCl ws H) (hD : va_D A ws) (hS : va_S A H0 H locs) (is js : List Nat) (hC : is.map (fun i => ws[i]?) = wc.map some) (hnd : va_nd is = true) (hj : js.filterMap (fun i => tys[i]?) = tysc) (hav : As = av) (hadr : wc'.map (·.1) = wc.map (·.1))
    (hn : As.length = n) (hl : ls.size = nL) (hst : st0 = As.reverse ++ rest) (hW : (rest.map fun v => v.category).sum ≤ 8) (hf : cells ≤ R.cells ∧ slots ≤ R.slots) (hdg : decode cc pc = .ok (.invokestatic index, 3)) (hw : q_put ws is wc' = wsN)
    (kk : ∀ (H1 : Heap) (locs1 : List Loc), va_P D vwCl wsN H1 → va_D A wsN → va_S A H0 H1 locs1 → W p l e R s m args below meth c H1 locs1 cells slots Q (F0 m (pc + 3) ls (rv.toList ++ rest))) : W p l e R s m args below meth c H locs cells slots Q (F0 m pc ls st0) := by
  subst hav
  subst hw
  intro T hT X
  have hp : PreS s H (q_Pm D As wc tysc) As := ⟨q_blindm, fun U hU hW => ⟨rfl, by rw [hU]; exact hP.sub is (q_sub hC), va_K.moved hW.alike (hK.sub js hj), (hD.sub is hnd hC).weaken (fun _ _ _ _ => trivial)⟩⟩
  obtain ⟨v, st₀, t, T', L, h0, X', hL, e1, ⟨hv, hP1, hF⟩, st⟩ := W.runS (locs := locs) S hM cw hp rfl hn hl hst (lv_room hW) hdg hf T hT X
  cases hv
  obtain ⟨a1, a2, a3⟩ := q_afterm h0 e1 hP hD hS is hC hadr hL hP1 hF
  obtain ⟨t2, b1, b2⟩ := kk T'.heap (locs ++ L) a1 a2 a3 T' rfl X'
  exact ⟨t2, st t2 b1, b2⟩
end QM
/-- a writing body's end -/
theorem q_retm {s : State} {D : va_G} {A : Nat → Prop} {H : Heap} {locs : List Loc} {rv : Option Value} {ws : va_W} {args : Array Value} (hP : va_P D vwCl ws H) (hS : va_S A s.heap H locs) : ∀ t : State, t.heap = H → s.WarmedH t.vm → q_Qm D A rv ws args s (.returned rv) t := fun t ht _ => ⟨rfl, by rw [ht]; exact hP, hS.F ht⟩
theorem updN_lt {g : Nat → Nat} {k v N : Nat} (h : ∀ j, g j < N) (hv : v < N) : ∀ j, updN g k v j < N := fun j => by
  unfold updN
  split
  · exact hv
  · exact h j
