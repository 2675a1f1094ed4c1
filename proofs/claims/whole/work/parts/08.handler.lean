/-! CATCHES: the search asks the catch types in turn (each is linked as it is asked for the first time). -/
theorem ct_step {Q : Handler → Pre} {E : CtlPost} {e : Env} {d : Bool} {acts : List Action} {s : State} {f : JFrame} {a : Addr} {x : ExceptionTableEntry} {t : List ExceptionTableEntry} {c : ClassId} {cell : Cell} (hx : covers x f.pc = true) (h0 : x.catchType ≠ 0)
    (hl : s.vm.ClassLinks e.platform f.method.cls x.catchType c) (hcell : s.heap[a]? = some cell) (hobj : ∀ k, cell.vm ≠ .statics k) (hk : ∃ k, s.vm.classes[cell.cls]? = some k) (hc : ∃ k, s.vm.classes[c]? = some k) :
    wp (findHandler.go f a (x :: t)) Q E e d acts s ↔ if s.vm.assignable cell.cls c = true then Q (.found x.handlerPc) d acts (s.setVm (s.vm.noted f.method.cls x.catchType (.cls c))) else wp (findHandler.go f a t) Q E e d acts (s.setVm (s.vm.noted f.method.cls x.catchType (.cls c))) := by
  simp only [covers] at hx
  obtain ⟨ha, ht⟩ := (resolveClass_links e.toSetting hl).op (op := VmOp.resolveClass f.method.cls x.catchType) rfl
  have hal : s.vm.Alike (s.vm.noted f.method.cls x.catchType (.cls c)) := (Vm.Alike.refl s.vm).noted _ _ _
  obtain ⟨k1, hk1⟩ := hk
  obtain ⟨k2, hk2⟩ := hc
  obtain ⟨k1', hk1', -⟩ := hal.2.2 _ _ hk1
  obtain ⟨k2', hk2', -⟩ := hal.2.2 _ _ hk2
  have hasg := hal.assignable (s := cell.cls) (t := c)
  cases hfit : s.vm.assignable cell.cls c with
  | true =>
    rw [hfit] at hasg
    simp [findHandler.go, hx, h0, ha, ht, hcell, hobj, hk1', hk2', hasg, VmOp.dirties, VmOp.acts]
  | false =>
    rw [hfit] at hasg
    simp [findHandler.go, hx, h0, ha, ht, hcell, hobj, hk1', hk2', hasg, VmOp.dirties, VmOp.acts]
/-- into the handler that was found; the tables may be warmer -/
theorem ct_caught {tb : Tables} {e : Env} {s target : State} {g : JFrame} {c : Code} {below : List Frame} {a : Addr} (h : At s g.method c below) {pc : Nat} {vm' : Vm}
    (hfind : ∀ (Q : Handler → Pre) (E : CtlPost) (d : Bool) (acts : List Action), wp (findHandler g a) Q E e d acts ((s.setTop g).pushFrame (.throwing a)) ↔ Q (.found pc) d acts (((s.setTop g).pushFrame (.throwing a)).setVm vm'))
    (hrest : Steps tb e below ((s.setVm vm').setTop { g with pc := pc, stack := [.ref a] }) target) : Steps tb e below ((s.setTop g).pushFrame (.throwing a)) target := by
  obtain ⟨hgo, hw⟩ := h.throwing a
  refine Steps.head hgo hw ?_
  have hst : ∀ r : List Frame, (stepThrowing e ((s.setTop g).pushFrame (.throwing a)) a (.java g :: r)).1 = (((s.setTop g).pushFrame (.throwing a)).setVm vm').setFrames (.java { g with pc := pc, stack := [.ref a] } :: r) := by
    intro r
    simp only [stepThrowing, searchFrame, vmDo]
    generalize hr : Sem.go _ e false [] ((s.setTop g).pushFrame (.throwing a)) = res
    obtain ⟨as, rfl, ha⟩ := Sem.eq_ok_of hr (a := Handler.found pc) (s' := ((s.setTop g).pushFrame (.throwing a)).setVm vm') (acts' := []) (by simp [hfind _ _ _ _])
    rfl
  rw [stepThread_throwing (frames_entered h.top _), hst]
  obtain ⟨g₀, hg⟩ := Option.isSome_iff_exists.mp h.top
  obtain ⟨r, hr⟩ := State.topJava?_eq_some.mp hg
  have hr' : (s.setVm vm').frames = .java g₀ :: r := hr
  rw [State.setTop_of_frames _ hr'] at hrest
  have hset : ∀ (u : State) (F G : List Frame), ((u.setFrames F).setVm vm').setFrames G = (u.setVm vm').setFrames G := fun u F G => by
    have h1 : (u.setFrames F).setVm vm' = (u.setVm vm').setFrames F := rfl
    rw [h1, State.setFrames_setFrames]
  rw [hr, List.tail_cons, State.pushFrame, hset, State.setTop_of_frames _ hr, hset]
  exact hrest
section CTC
variable {p : Program} {l : Launch} {e : Env} {R : Room} {s : State} {m : MethodId} {args : Array Value} {below : List Frame} {meth : Method} {c : Code} {H : Heap} {locs : List Loc} {cells slots : Nat} {Q : State → Prop}
variable {cc : ByteArray} {nL pc : Nat} {ls : Array Slot} {rest : List Value} {WT : List Cond} {D : va_G} {cl : List vw_C} {tys : List (ClassId × FieldType)} {own : String}
theorem ct_split {hs : List (Nat × Nat × Nat × Nat)} (hh : c.exceptionTable.toList.map (fun h => (h.startPc, h.endPc, h.handlerPc, h.catchType)) = hs) : ∃ L : List ExceptionTableEntry, c.exceptionTable.toList = L ∧ L.map (fun h => (h.startPc, h.endPc, h.handlerPc, h.catchType)) = hs := ⟨_, rfl, hh⟩
/-- the first entry takes it -/
theorem ct_first (x : mp_X WT D cl tys p s m args c cc nL own) {h1 h2 h3 h4 : Nat} {more : List (Nat × Nat × Nat × Nat)} (hh : c.exceptionTable.toList.map (fun h => (h.startPc, h.endPc, h.handlerPc, h.catchType)) = (h1, h2, h3, h4) :: more) (hlo : h1 ≤ pc) (hhi : pc < h2) (h0 : h4 ≠ 0) {cls : String} (hl : Cond.classLink own h4 cls ∈ WT) (hcs : Cond.castable cls cls ∈ WT)
    {a : Addr} {cell : Cell} (hcell : H[a]? = some cell) (hvm : cell.vm = .none) (hfc : s.vm.findClass cls = some cell.cls) (kk : W p l e R s m args below meth c H locs cells slots Q (F0 m h3 ls [.ref a])) : mp_WT p l e R s m args below meth c H locs cells slots Q a (F0 m pc ls rest) := by
  obtain ⟨hx, hb, hml, hown, hts, -⟩ := x
  intro T hT X
  have hpl : e.platform.magicAccessors = ({} : Platform).magicAccessors := by rw [X.admits.platform]
  obtain ⟨cT, hcT, hlk⟩ := Cond.classLink_spec hown (hts _ hl) e.platform hpl
  cases hfc.symm.trans hcT
  obtain ⟨c3, c4, hc3, hc4, hasg⟩ := Cond.castable_spec (hts _ hcs)
  cases hfc.symm.trans hc3
  cases hfc.symm.trans hc4
  have hW := X.warmed
  have hlT := hW.classLinks hlk
  obtain ⟨dk, _, _, kt, hd, _, _, _, _, hkt, _, hopen⟩ := hlk.here
  obtain ⟨kt', hkt', -⟩ := hW.alike.2.2 _ _ hkt
  have hW' := hW.noted hd hopen (State.rightAt_cls hlk)
  obtain ⟨t, a1, b1⟩ := kk (T.setVm (T.vm.noted m.cls h4 (.cls cell.cls))) hT (X.noted hW')
  refine ⟨t, ct_caught (pc := h3) (vm' := T.vm.noted m.cls h4 (.cls cell.cls)) X.here (fun Q' E' d' acts' => ?_) a1, b1⟩
  obtain ⟨L, hL, hm⟩ := ct_split hh
  cases L with
  | nil => cases hm
  | cons y r =>
    simp only [List.map_cons, List.cons.injEq, Prod.mk.injEq] at hm
    obtain ⟨⟨e1, e2, e3, e4⟩, -⟩ := hm
    subst e1; subst e2; subst e3; subst e4
    rw [W.findHandler_eq (s := (T.setTop (F0 m pc ls rest)).pushFrame (.throwing a)) (meth := meth) (code := c) (by rw [Stand.throwing_vm]; exact X.method') X.code, hL]
    rw [ct_step (x := y) (c := cell.cls) (cell := cell) (by simp [covers, hlo, hhi]) h0 (by rw [Stand.throwing_vm]; exact hlT) (by rw [Stand.throwing_heap, hT]; exact hcell) (fun k h => by rw [hvm] at h; cases h) (by rw [Stand.throwing_vm]; exact ⟨kt', hkt'⟩) (by rw [Stand.throwing_vm]; exact ⟨kt', hkt'⟩)]
    rw [if_pos (by rw [Stand.throwing_vm, hW.alike.assignable]; exact hasg), Stand.throwing_vm]
/-- the first doesn't, the second does -/
theorem ct_second (x : mp_X WT D cl tys p s m args c cc nL own) {h1 h2 h3 h4 g1 g2 g3 g4 : Nat} {more : List (Nat × Nat × Nat × Nat)} (hh : c.exceptionTable.toList.map (fun h => (h.startPc, h.endPc, h.handlerPc, h.catchType)) = (h1, h2, h3, h4) :: (g1, g2, g3, g4) :: more) (hlo : h1 ≤ pc) (hhi : pc < h2) (h0 : h4 ≠ 0) (glo : g1 ≤ pc) (ghi : pc < g2) (g0 : g4 ≠ 0) {cls oth : String} (hl : Cond.classLink own h4 oth ∈ WT) (hno : va_Nw (.not (.castable cls oth)) s) (gl : Cond.classLink own g4 cls ∈ WT) (hcs : Cond.castable cls cls ∈ WT)
    {a : Addr} {cell : Cell} (hcell : H[a]? = some cell) (hvm : cell.vm = .none) (hfc : s.vm.findClass cls = some cell.cls) (kk : W p l e R s m args below meth c H locs cells slots Q (F0 m g3 ls [.ref a])) : mp_WT p l e R s m args below meth c H locs cells slots Q a (F0 m pc ls rest) := by
  obtain ⟨hx, hb, hml, hown, hts, -⟩ := x
  intro T hT X
  have hpl : e.platform.magicAccessors = ({} : Platform).magicAccessors := by rw [X.admits.platform]
  obtain ⟨cO, hcO, hlkO⟩ := Cond.classLink_spec hown (hts _ hl) e.platform hpl
  obtain ⟨cT, hcT, hlk⟩ := Cond.classLink_spec hown (hts _ gl) e.platform hpl
  cases hfc.symm.trans hcT
  obtain ⟨c3, c4, hc3, hc4, hasg⟩ := Cond.castable_spec (hts _ hcs)
  cases hfc.symm.trans hc3
  cases hfc.symm.trans hc4
  have hnoasg := mp_notcast hno hfc hcO
  have hW := X.warmed
  have hlT := hW.classLinks hlkO
  obtain ⟨dk, _, _, kO, hd, _, _, _, _, hkO, _, hopen⟩ := hlkO.here
  obtain ⟨kO', hkO', -⟩ := hW.alike.2.2 _ _ hkO
  obtain ⟨dk2, _, _, kt, hd2, _, _, _, _, hkt, _, hopen2⟩ := hlk.here
  obtain ⟨kt', hkt', -⟩ := hW.alike.2.2 _ _ hkt
  have hW1 := hW.noted hd hopen (State.rightAt_cls hlkO)
  have hlT2 := hW1.classLinks hlk
  obtain ⟨kt2, hkt2, -⟩ := hW1.alike.2.2 _ _ hkt
  have hW2 := hW1.noted hd2 hopen2 (State.rightAt_cls hlk)
  obtain ⟨t, a1, b1⟩ := kk (T.setVm ((T.vm.noted m.cls h4 (.cls cO)).noted m.cls g4 (.cls cell.cls))) hT (X.noted hW2)
  refine ⟨t, ct_caught (pc := g3) (vm' := (T.vm.noted m.cls h4 (.cls cO)).noted m.cls g4 (.cls cell.cls)) X.here (fun Q' E' d' acts' => ?_) a1, b1⟩
  obtain ⟨L, hL, hm⟩ := ct_split hh
  cases L with
  | nil => cases hm
  | cons y r0 =>
    cases r0 with
    | nil => simp at hm
    | cons z r =>
      simp only [List.map_cons, List.cons.injEq, Prod.mk.injEq] at hm
      obtain ⟨⟨e1, e2, e3, e4⟩, ⟨f1, f2, f3, f4⟩, -⟩ := hm
      subst e1; subst e2; subst e3; subst e4; subst f1; subst f2; subst f3; subst f4
      rw [W.findHandler_eq (s := (T.setTop (F0 m pc ls rest)).pushFrame (.throwing a)) (meth := meth) (code := c) (by rw [Stand.throwing_vm]; exact X.method') X.code, hL]
      rw [ct_step (x := y) (c := cO) (cell := cell) (by simp [covers, hlo, hhi]) h0 (by rw [Stand.throwing_vm]; exact hlT) (by rw [Stand.throwing_heap, hT]; exact hcell) (fun k h => by rw [hvm] at h; cases h) (by rw [Stand.throwing_vm]; exact ⟨kt', hkt'⟩) (by rw [Stand.throwing_vm]; exact ⟨kO', hkO'⟩)]
      rw [if_neg (by rw [Stand.throwing_vm, hW.alike.assignable, hnoasg]; decide), Stand.throwing_vm]
      rw [ct_step (x := z) (c := cell.cls) (cell := cell) (by simp [covers, glo, ghi]) g0 (by exact hlT2) (by show ((T.setTop (F0 m pc ls rest)).pushFrame (.throwing a)).heap[a]? = _; rw [Stand.throwing_heap, hT]; exact hcell) (fun k h => by rw [hvm] at h; cases h) ⟨kt2, hkt2⟩ ⟨kt2, hkt2⟩]
      rw [if_pos (by show (T.vm.noted m.cls y.catchType (.cls cO)).assignable _ _ = true; rw [hW1.alike.assignable]; exact hasg)]
      rfl
end CTC
