/-! CALLS as rows: the instruction, the callee by its contract, both ways out. -/
theorem mp_mkC {s : State} {args : Array Value} {y : MethodName} {bytes : ByteArray} {maxL : Nat} {ret : Option FieldType} (h : (Cond.code y bytes maxL ret).before args s = true) (hp : mp_pl y) : ∃ mk, mp_Mk s y bytes maxL ret [] mk := by
  obtain ⟨mk, hn⟩ := Cond.code_named h
  obtain ⟨meth, c, h1, h2, h3, h4, h5, h6, h7, -⟩ := Cond.code_spec hn h
  refine ⟨mk, hn, hp, meth, c, h1, h2, h3, h4, h5, h6, ?_⟩
  have h8 : c.exceptionTable = #[] := by simpa using h7
  rw [h8]
  rfl
theorem mp_mkW {s : State} {args : Array Value} {y : MethodName} {bytes : ByteArray} {maxL : Nat} {ret : Option FieldType} {hs : List (Nat × Nat × Nat × Nat)} (h : (Cond.codeWith y bytes maxL ret hs).before args s = true) (hp : mp_pl y) : ∃ mk, mp_Mk s y bytes maxL ret hs mk := by
  obtain ⟨mk, meth, c, hn, h1, h2, h3, h4, h5, h6, h7, -⟩ := Cond.codeWith_spec h
  exact ⟨mk, hn, hp, meth, c, h1, h2, h3, h4, h6, h7, h5⟩
/-- an invoking instruction at pc: it comes to the callee's entry -/
def mp_Inv (p : Program) (l : Launch) (e : Env) (R : Room) (s : State) (m : MethodId) (args : Array Value) (below : List Frame) (meth : Method) (c : Code) (H : Heap) (pc : Nat) (ls : Array Slot) (st rest : List Value) (y : MethodName) (bytes : ByteArray) (maxL : Nat) (ret : Option FieldType) (hs : List (Nat × Nat × Nat × Nat)) (av : List Value) : Prop :=
  ∀ (T : State) (locs : List Loc) (cells slots : Nat), T.heap = H → Stand p l e R s m args below meth c T locs cells slots → ∃ (mk : MethodId) (vm' : Vm) (ig : Instr), mp_Mk s y bytes maxL ret hs mk ∧ Stand p l e R s m args below meth c (T.setVm vm') locs cells slots ∧ decode c.code pc = .ok (ig, 3) ∧
    ∀ target, (∀ acts, Steps p.tables e below (doInvoke e ((T.setVm vm').setTop (F0 m pc ls rest)) acts mk av.toArray).1 target) → Steps p.tables e below (T.setTop (F0 m pc ls st)) target
section MPI
variable {p : Program} {l : Launch} {e : Env} {R : Room} {s : State} {m : MethodId} {args : Array Value} {below : List Frame} {meth : Method} {c : Code} {H : Heap} {locs : List Loc} {cells slots : Nat} {Q : State → Prop}
variable {cc : ByteArray} {nL pc : Nat} {ls : Array Slot} {st rest : List Value} {WT : List Cond} {D : va_G} {cl : List vw_C} {tys : List (ClassId × FieldType)} {ZS : State → Prop} {base : Nat} {σ : mp_M} {own : String}
variable {y : MethodName} {bytes : ByteArray} {maxL : Nat} {ret : Option FieldType} {hs : List (Nat × Nat × Nat × Nat)} {d w mc ms : Nat} {av : List Value} {PO : Outcome → mp_M → State → Prop}
theorem mp_call (x : mp_X WT D cl tys p s m args c cc nL own) (hv : mp_Mv WT ZS base) (hG : mp_G WT D cl tys ZS s) (hB : base ≤ s.heap.size) (hlen : ls.size = nL) (hi : mp_Inv p l e R s m args below meth c H pc ls st rest y bytes maxL ret hs av)
    (hM : mp_Met l WT D cl tys ZS base y bytes maxL ret hs d w mc ms av σ PO) (hfr : d + 1 ≤ R.frames) (hlo : (rest.map fun v => v.category).sum + (maxL + 11) + w ≤ R.locals) (hce : cells + mc ≤ R.cells) (hsl : slots + ms ≤ R.slots) (hH : mp_H D cl base σ H) (hS : va_S (mp_A base) s.heap H locs)
    (kr : ∀ (v : Option Value) (σ' : mp_M) (t : State) (H1 : Heap) (locs1 : List Loc), PO (.returned v) σ' t → t.heap = H1 → s.vm.Alike t.vm → H.size ≤ H1.size → mp_H D cl base σ' H1 → va_S (mp_A base) s.heap H1 locs1 → W p l e R s m args below meth c H1 locs1 (cells + mc) (slots + ms) Q (F0 m (pc + 3) ls (v.toList ++ rest)))
    (kt : ∀ (a : Addr) (σ' : mp_M) (t : State) (H1 : Heap) (locs1 : List Loc), PO (.threw a) σ' t → t.heap = H1 → s.vm.Alike t.vm → H.size ≤ H1.size → mp_H D cl base σ' H1 → va_S (mp_A base) s.heap H1 locs1 → mp_WT p l e R s m args below meth c H1 locs1 (cells + mc) (slots + ms) Q a (F0 m pc ls rest)) :
    W p l e R s m args below meth c H locs cells slots Q (F0 m pc ls st) := by
  intro T hT X
  obtain ⟨mk, vm', ig, hk, X', hdg, hgo⟩ := hi T locs cells slots hT X
  have hT' : (T.setVm vm').heap = H := hT
  obtain ⟨o, σ', t, T', L, hPO, e1, e2, hH', hS', hz, X'', hr, ht⟩ := mp_enter (g := F0 m pc ls rest) X' x.1 hv rfl (hlen.trans x.2.2.1.symm) hdg hM hk hfr (by show 2 * 0 + (rest.map fun v => v.category).sum + (maxL + 11) + w ≤ R.locals; omega) hce hsl hG hB (by rw [hT']; exact hH) (by rw [hT']; exact hS)
  rw [hT'] at hz
  have hal : s.vm.Alike t.vm := by rw [← e2]; exact X''.warmed.alike
  cases o with
  | returned v =>
    obtain ⟨t2, a1, b1⟩ := kr v σ' t T'.heap (locs ++ L) hPO e1.symm hal hz hH' hS' T' rfl X''
    exact ⟨t2, hgo t2 (fun acts => (hr v rfl acts).trans a1), b1⟩
  | threw a =>
    obtain ⟨t2, a1, b1⟩ := kt a σ' t T'.heap (locs ++ L) hPO e1.symm hal hz hH' hS' T' rfl X''
    exact ⟨t2, hgo t2 (fun acts => (ht a rfl acts).trans a1), b1⟩
/-- the code word of a callee, with handlers or without -/
def mp_Cw (WT : List Cond) (y : MethodName) (bytes : ByteArray) (maxL : Nat) (ret : Option FieldType) (hs : List (Nat × Nat × Nat × Nat)) : Prop := (Cond.code y bytes maxL ret ∈ WT ∧ hs = []) ∨ Cond.codeWith y bytes maxL ret hs ∈ WT
theorem mp_Cw.mk (hw : mp_Cw WT y bytes maxL ret hs) (hts : ∀ w ∈ WT, w.before args s = true) (hp : mp_pl y) : ∃ mk, mp_Mk s y bytes maxL ret hs mk := by
  rcases hw with ⟨h, rfl⟩ | h
  · exact mp_mkC (hts _ h) hp
  · exact mp_mkW (hts _ h) hp
/-- a name's plain facts, by reading it -/
def mp_Nm (y : MethodName) (n : Nat) : Prop := mp_pl y ∧ (y.cls ≠ "java/lang/invoke/MethodHandle" ∧ y.cls ≠ "java/lang/invoke/VarHandle") ∧ (parseMethodDescriptor y.desc).map (fun d => d.parameters.length) = some n
theorem mp_Mk.sig {mk : MethodId} (hk : mp_Mk s y bytes maxL ret hs mk) (hts : ∀ w ∈ WT, w.before args s = true) (hw : mp_Cw WT y bytes maxL ret hs) {n : Nat} (hn : mp_Nm y n) : ∃ methk, s.vm.method? mk = some methk ∧ methk.sig.parameters.length = n := by
  obtain ⟨hnm, -⟩ := hk
  rcases hw with ⟨h, -⟩ | h
  · obtain ⟨meth, c, h1, -, -, -, -, -, -, h8⟩ := Cond.code_spec hnm (hts _ h)
    have h9 := hn.2.2
    rw [h8] at h9
    exact ⟨meth, h1, Option.some.inj h9⟩
  · obtain ⟨mk', meth, c, hn', h1, -, -, -, -, -, -, h8⟩ := Cond.codeWith_spec (hts _ h)
    cases hnm.symm.trans hn'
    have h9 := hn.2.2
    rw [h8] at h9
    exact ⟨meth, h1, Option.some.inj h9⟩
theorem mp_invS (x : mp_X WT D cl tys p s m args c cc nL own) {index n : Nat} (hn : mp_Nm y n) (hw : mp_Cw WT y bytes maxL ret hs) (hl : Cond.methodLink own index y ∈ WT ∨ ∃ host, Cond.methodLinkNest own index y host ∈ WT) (hst : Cond.static y ∈ WT) (hini : Cond.initialized y.cls ∈ WT) (hav : av.length = n) (hdg : decode cc pc = .ok (.invokestatic index, 3)) :
    mp_Inv p l e R s m args below meth c H pc ls (av.reverse ++ rest) rest y bytes maxL ret hs av := by
  obtain ⟨hx, hb, -, hown, hts, -⟩ := x
  intro T locs cells slots hT X
  obtain ⟨mk, hk⟩ := hw.mk hts hn.1
  obtain ⟨methk, hm, hpl⟩ := hk.sig hts hw hn
  have hstatic : methk.isStatic = true := Cond.static_spec hk.1 hm (hts _ hst)
  obtain ⟨kP, hkP, -⟩ := className_of_methodNamed hk.1
  have hinitP : kP.init = .initialized := Cond.initialized_spec (findClass_of_methodNamed hk.1) hkP (hts _ hini)
  rcases hl with hl | ⟨host, hl⟩
  · obtain ⟨vm₁, X₁, hstep₁⟩ := X.invokestatic hx hown (hts _ hl) hk.1 hm hstatic hkP hinitP hn.2.1 (g := F0 m pc ls (av.reverse ++ rest)) rfl (argsL := av) (rest := rest) (hav.trans hpl.symm) rfl (by rw [hb]; exact hdg)
    exact ⟨mk, vm₁, _, hk, X₁, by rw [hb]; exact hdg, hstep₁⟩
  · obtain ⟨vm₁, X₁, hstep₁⟩ := X.invokestaticNest hx hown (hts _ hl) hk.1 hm hstatic hkP hinitP hn.2.1 (g := F0 m pc ls (av.reverse ++ rest)) rfl (argsL := av) (rest := rest) (hav.trans hpl.symm) rfl (by rw [hb]; exact hdg)
    exact ⟨mk, vm₁, _, hk, X₁, by rw [hb]; exact hdg, hstep₁⟩
theorem mp_invV (x : mp_X WT D cl tys p s m args c cc nL own) {index n a ci : Nat} {fs : List Value} (hH : mp_H D cl base σ H) (hs0 : σ a = some (.inr (ci, fs))) {r : vw_C} (hc : cl[ci]? = some r) (hcn : r.1 = y.cls) (hn : mp_Nm y n) (hw : mp_Cw WT y bytes maxL ret hs) (hl : Cond.methodLink own index y ∈ WT ∨ ∃ host, Cond.methodLinkNest own index y host ∈ WT) (hin : Cond.instanceMethod y ∈ WT) (hse : Cond.selects y.cls y y ∈ WT) (hav : av.length = n) (hdg : decode cc pc = .ok (.invokevirtual index, 3)) :
    mp_Inv p l e R s m args below meth c H pc ls (av.reverse ++ .ref a :: rest) rest y bytes maxL ret hs (.ref a :: av) := by
  obtain ⟨hx, hb, -, hown, hts, hK⟩ := x
  intro T locs cells slots hT X
  obtain ⟨mk, hk⟩ := hw.mk hts hn.1
  obtain ⟨methk, hm, hpl⟩ := hk.sig hts hw hn
  obtain ⟨cellB, hcB, hoB, hclB⟩ := va_recv hK (hH.one hs0) hc (q0 := 0) rfl
  rw [hcn] at hclB
  obtain ⟨mk', methM, hnamed, hmethM, hstM, habM⟩ := Cond.instanceMethod_spec (hts _ hin)
  cases hk.1.symm.trans hnamed
  cases hm.symm.trans hmethM
  obtain ⟨c2, r2, m2, q1, q2, q3, q4, kP, hkP, hkPi⟩ := Cond.selects_spec (hts _ hse)
  cases hclB.symm.trans q1
  cases (State.methodFound?_of_named hnamed hn.2.1).symm.trans q2
  cases hnamed.symm.trans q3
  have hselP : selectMethod e.platform s.vm cellB.cls mk = .method mk := by rw [Launch.admits_selectMethod X.admits]; exact q4
  rcases hl with hl | ⟨host, hl⟩
  · obtain ⟨vm₁, X₁, hstep₁⟩ := X.invokevirtual hx hown (hts _ hl) hnamed hmethM hstM hkP hkPi hn.2.1 (a := a) (cell := cellB) (by rw [hT]; exact hcB)
      (fun z h => by rw [h] at hoB; cases hoB) hselP hmethM habM hkP hkPi (g := F0 m pc ls (av.reverse ++ .ref a :: rest)) rfl (argsL := av) (rest := rest) (hav.trans hpl.symm) rfl (by rw [hb]; exact hdg)
    exact ⟨mk, vm₁, _, hk, X₁, by rw [hb]; exact hdg, hstep₁⟩
  · obtain ⟨vm₁, X₁, hstep₁⟩ := X.invokevirtualNest hx hown (hts _ hl) hnamed hmethM hstM hkP hkPi hn.2.1 (a := a) (cell := cellB) (by rw [hT]; exact hcB)
      (fun z h => by rw [h] at hoB; cases hoB) hselP hmethM habM hkP hkPi (g := F0 m pc ls (av.reverse ++ .ref a :: rest)) rfl (argsL := av) (rest := rest) (hav.trans hpl.symm) rfl (by rw [hb]; exact hdg)
    exact ⟨mk, vm₁, _, hk, X₁, by rw [hb]; exact hdg, hstep₁⟩
theorem mp_invI (x : mp_X WT D cl tys p s m args c cc nL own) {index n a : Nat} (hn : mp_Nm y n) (hy1 : y.name = "<init>") (hw : Cond.code y bytes maxL none ∈ WT) (hl : Cond.methodLink own index y ∈ WT ∨ ∃ host, Cond.methodLinkNest own index y host ∈ WT) (hin : Cond.instanceMethod y ∈ WT) (hav : av.length = n) (hdg : decode cc pc = .ok (.invokespecial index, 3)) :
    mp_Inv p l e R s m args below meth c H pc ls (av.reverse ++ .ref a :: rest) rest y bytes maxL none [] (.ref a :: av) := by
  obtain ⟨hx, hb, -, hown, hts, hK⟩ := x
  intro T locs cells slots hT X
  obtain ⟨mk, hk⟩ := mp_mkC (hts _ hw) hn.1
  have hpl : e.platform.magicAccessors = ({} : Platform).magicAccessors := by rw [X.admits.platform]
  have hlen : ∀ sig, parseMethodDescriptor y.desc = some sig → av.length = sig.parameters.length := fun sig h => by
    have h9 := hn.2.2
    rw [h] at h9
    exact hav.trans (Option.some.inj h9).symm
  rcases hl with hl | ⟨host, hl⟩
  · obtain ⟨mk', methM, cM, kP, vm₁, hnamed, hmethM, hcodeM, -, hlocalsM, -, hkP, -, hW₁, hstep₁⟩ := Steps.initColdArgs (e := e) X.here hx X.warmed hpl hown hy1 hn.2.1 (hts _ hl) (hts _ hin) (hts _ hw) (f := F0 m pc ls (av.reverse ++ .ref a :: rest)) rfl hlen rfl (by rw [hb]; exact hdg)
    cases hk.1.symm.trans hnamed
    exact ⟨mk, vm₁, _, hk, X.noted hW₁, by rw [hb]; exact hdg, hstep₁⟩
  · obtain ⟨mk', methM, cM, kP, vm₁, hnamed, hmethM, hcodeM, -, hlocalsM, -, hkP, -, hW₁, hstep₁⟩ := Steps.initColdArgsNest (e := e) X.here hx X.warmed hpl hown hy1 hn.2.1 (hts _ hl) (hts _ hin) (hts _ hw) (f := F0 m pc ls (av.reverse ++ .ref a :: rest)) rfl hlen rfl (by rw [hb]; exact hdg)
    cases hk.1.symm.trans hnamed
    exact ⟨mk, vm₁, _, hk, X.noted hW₁, by rw [hb]; exact hdg, hstep₁⟩
end MPI
