/-! CONTRACTS and CALLS over a store: a method returns or throws. -/
/-- the method's end: returned or threw; what it wrote lies from base on; what it made -/
def mp_Q (below : List Frame) (s : State) (mc ms base : Nat) (post : Outcome → State → Prop) : State → Prop := fun t =>
  ∃ o, t.status = .running ∧ Ended t below o ∧ post o t ∧ s.WarmedH t.vm ∧ ∃ L, s.sameButNew ({ t with vm := s.vm } : State) L mc ms ∧ ∀ q ∈ L, base ≤ q.base
/-- behind a method: a store again, nothing below base has changed -/
def mp_P (D : va_G) (cl : List vw_C) (base : Nat) (s : State) (PO : Outcome → mp_M → State → Prop) : Outcome → State → Prop := fun o t =>
  (∃ σ' : mp_M, PO o σ' t ∧ mp_H D cl base σ' t.heap) ∧ va_F (mp_A base) s t
/-- what the tables say, and what is kept from a method to its callees -/
def mp_G (WT : List Cond) (D : va_G) (cl : List vw_C) (tys : List (ClassId × FieldType)) (ZS : State → Prop) (s : State) : Prop :=
  (∀ w ∈ WT, va_Nw w s) ∧ va_K D cl tys s ∧ ZS s
/-- a method's contract at one list of arguments and one store -/
def mp_Met (l : Launch) (WT : List Cond) (D : va_G) (cl : List vw_C) (tys : List (ClassId × FieldType)) (ZS : State → Prop) (base : Nat) (y : MethodName) (bytes : ByteArray) (maxL : Nat) (ret : Option FieldType) (hs : List (Nat × Nat × Nat × Nat)) (d w mc ms : Nat) (av : List Value) (σ : mp_M) (PO : Outcome → mp_M → State → Prop) : Prop :=
  ∀ (p : Program) (e : Env) (R : Room) (s : State) (m : MethodId) (below : List Frame) (meth : Method) (c : Code), p.tables.exec = Jvm.exec → d ≤ R.frames → w ≤ R.locals → mc ≤ R.cells → ms ≤ R.slots →
    s.methodNamed? y = some m → s.vm.method? m = some meth → meth.code = some c → c.code = bytes → c.maxLocals = maxL → meth.sig.returnType = ret → meth.locks = false → c.exceptionTable.toList.map (fun h => (h.startPc, h.endPc, h.handlerPc, h.catchType)) = hs →
    mp_G WT D cl tys ZS s → base ≤ s.heap.size → mp_H D cl base σ s.heap →
    W p l e R s m av.toArray below meth c s.heap [] 0 0 (mp_Q below s mc ms base (mp_P D cl base s PO)) (entryFrame m av.toArray maxL)
theorem mp_weak {tb : Tables} {e : Env} {f : Frame} {below : List Frame} {a b : State} (h : Steps tb e (f :: below) a b) : Steps tb e below a b := by
  obtain ⟨n, hn, hw⟩ := h
  refine ⟨n, hn, fun k hk => ?_⟩
  obtain ⟨above, h1, h2, h3⟩ := hw k hk
  refine ⟨above ++ [f], by rw [h1, List.append_assoc]; rfl, fun h => h2 (List.append_eq_nil_iff.mp h).1, fun x hx => ?_⟩
  cases above with
  | nil => exact h2 rfl
  | cons y r =>
    have h4 : (r ++ [f]).length = 0 := by
      have := congrArg List.length hx
      simp at this
    simp at h4
section MPE
variable {p : Program} {l : Launch} {e : Env} {R : Room} {s : State} {m : MethodId} {args : Array Value} {below : List Frame} {meth : Method} {c : Code} {H : Heap} {locs : List Loc} {cells slots : Nat} {Q : State → Prop}
variable {cc : ByteArray} {nL pc : Nat} {ls : Array Slot} {rest : List Value} {base mc ms : Nat} {post : Outcome → State → Prop}
theorem mp_zret {v : Int32} {ty : FieldType} (hexec : p.tables.exec = Jvm.exec) (hb : c.code = cc) (hr : meth.sig.returnType = some ty) (hn : narrow ty (.int v) = .int v) (hlocks : meth.locks = false) (hc : cells ≤ mc) (hs : slots ≤ ms)
    (hq : ∀ t : State, t.heap = H → s.WarmedH t.vm → post (.returned (some (.int v))) t) (hf : ∀ q ∈ locs, base ≤ q.base) (hdg : decode cc pc = .ok (.ireturn, 1)) : W p l e R s m args below meth c H locs cells slots (mp_Q below s mc ms base post) (F0 m pc ls [.int v]) := by
  intro T hT X
  obtain ⟨fs, hret, hrun, hended, hW, hframe⟩ := X.leave (v := some (.int v)) (fun h => by rw [hr] at h; cases h)
  have hmeth' : T.vm.method? m = some meth := X.method'
  refine ⟨T.setFrames fs, ?_, .returned (some (.int v)), hrun, hended, hq _ hT hW, hW, locs, hframe.mono hc hs, hf⟩
  jvm_step X.here [X.here.top, hexec, hb, hdg, hmeth', hr, hn]
  (try refine ⟨rfl, ?_⟩); (try refine ⟨rfl, ?_⟩)
  first | (intro acts; rw [hret _ acts rfl rfl rfl]) | rw [hret _ _ rfl rfl rfl]
  exact Steps.refl _
theorem mp_iret {v : Int32} (hexec : p.tables.exec = Jvm.exec) (hb : c.code = cc) (hr : meth.sig.returnType = some .int) (hlocks : meth.locks = false) (hc : cells ≤ mc) (hs : slots ≤ ms)
    (hq : ∀ t : State, t.heap = H → s.WarmedH t.vm → post (.returned (some (.int v))) t) (hf : ∀ q ∈ locs, base ≤ q.base) (hdg : decode cc pc = .ok (.ireturn, 1)) : W p l e R s m args below meth c H locs cells slots (mp_Q below s mc ms base post) (F0 m pc ls [.int v]) :=
  mp_zret hexec hb hr rfl hlocks hc hs hq hf hdg
theorem mp_vret (hexec : p.tables.exec = Jvm.exec) (hb : c.code = cc) (hr : meth.sig.returnType = none) (hlocks : meth.locks = false) (hc : cells ≤ mc) (hs : slots ≤ ms)
    (hq : ∀ t : State, t.heap = H → s.WarmedH t.vm → post (.returned none) t) (hf : ∀ q ∈ locs, base ≤ q.base) (hdg : decode cc pc = .ok (.return_, 1)) : W p l e R s m args below meth c H locs cells slots (mp_Q below s mc ms base post) (F0 m pc ls []) := by
  intro T hT X
  obtain ⟨fs, hret, hrun, hended, hW, hframe⟩ := X.leave (v := none) (fun _ => rfl)
  have hmeth' : T.vm.method? m = some meth := X.method'
  refine ⟨T.setFrames fs, ?_, .returned none, hrun, hended, hq _ hT hW, hW, locs, hframe.mono hc hs, hf⟩
  jvm_step X.here [X.here.top, hexec, hb, hdg, hmeth', hr]
  (try refine ⟨rfl, ?_⟩); (try refine ⟨rfl, ?_⟩)
  first | (intro acts; rw [hret _ acts rfl rfl rfl]) | rw [hret _ _ rfl rfl rfl]
  exact Steps.refl _
theorem mp_aret {v : Value} {rt : FieldType} (hexec : p.tables.exec = Jvm.exec) (hb : c.code = cc) (hr : meth.sig.returnType = some rt) (hrt : (∃ n, rt = .object n) ∨ ∃ t, rt = .array t) (hv : v = .null ∨ ∃ a, v = .ref a) (hlocks : meth.locks = false) (hc : cells ≤ mc) (hs : slots ≤ ms)
    (hq : ∀ t : State, t.heap = H → s.WarmedH t.vm → post (.returned (some v)) t) (hf : ∀ q ∈ locs, base ≤ q.base) (hdg : decode cc pc = .ok (.areturn, 1)) : W p l e R s m args below meth c H locs cells slots (mp_Q below s mc ms base post) (F0 m pc ls [v]) := by
  intro T hT X
  obtain ⟨fs, hret, hrun, hended, hW, hframe⟩ := X.leave (v := some v) (fun h => by rw [hr] at h; cases h)
  have hmeth' : T.vm.method? m = some meth := X.method'
  refine ⟨T.setFrames fs, ?_, .returned (some v), hrun, hended, hq _ hT hW, hW, locs, hframe.mono hc hs, hf⟩
  rcases hrt with ⟨n, rfl⟩ | ⟨t, rfl⟩ <;> rcases hv with rfl | ⟨a, rfl⟩ <;>
    (jvm_step X.here [X.here.top, hexec, hb, hdg, hmeth', hr]
     (try refine ⟨rfl, ?_⟩); (try refine ⟨rfl, ?_⟩)
     first | (intro acts; rw [hret _ acts rfl rfl rfl]) | rw [hret _ _ rfl rfl rfl]
     exact Steps.refl _)
/-- an exception under way, over the frame g -/
def mp_WT (p : Program) (l : Launch) (e : Env) (R : Room) (s : State) (m : MethodId) (args : Array Value) (below : List Frame) (meth : Method) (c : Code) (H : Heap) (locs : List Loc) (cells slots : Nat) (Q : State → Prop) (x : Addr) (g : JFrame) : Prop :=
  ∀ T : State, T.heap = H → Stand p l e R s m args below meth c T locs cells slots → ∃ t, Steps p.tables e below ((T.setTop g).pushFrame (.throwing x)) t ∧ Q t
/-- it leaves a method without handlers -/
theorem mp_out {x : Addr} (hlocks : meth.locks = false) (hh : c.exceptionTable.toList.map (fun h => (h.startPc, h.endPc, h.handlerPc, h.catchType)) = []) (hc : cells ≤ mc) (hs : slots ≤ ms)
    (hq : ∀ t : State, t.heap = H → s.WarmedH t.vm → post (.threw x) t) (hf : ∀ q ∈ locs, base ≤ q.base) {st : List Value} : mp_WT p l e R s m args below meth c H locs cells slots (mp_Q below s mc ms base post) x (F0 m pc ls st) := by
  intro T hT X
  have hnil : c.exceptionTable.toList = [] := List.map_eq_nil_iff.mp hh
  obtain ⟨h1, h2, h3, h4, h5⟩ := X.leaveThrown x (g := F0 m pc ls st) rfl rfl rfl (fun y hy => by rw [hnil] at hy; cases hy)
  exact ⟨_, h1, .threw x, h2, h3, hq _ hT h4, h4, locs, h5.mono hc hs, hf⟩
end MPE
section MPC
variable {p : Program} {l : Launch} {e : Env} {R : Room} {s : State} {m : MethodId} {args : Array Value} {below : List Frame} {meth : Method} {c : Code} {T : State} {locs : List Loc} {cells slots : Nat}
variable {WT : List Cond} {D : va_G} {cl : List vw_C} {tys : List (ClassId × FieldType)} {ZS : State → Prop} {base : Nat} {y : MethodName} {bytes : ByteArray} {maxL : Nat} {ret : Option FieldType} {hs : List (Nat × Nat × Nat × Nat)} {d w mc ms : Nat} {av : List Value} {σ : mp_M} {PO : Outcome → mp_M → State → Prop}
/-- how words and tables come to a callee -/
def mp_Mv (WT : List Cond) (ZS : State → Prop) (base : Nat) : Prop :=
  (∀ w ∈ WT, ∀ s U : State, s.WarmedH U.vm → va_Nw w s → va_Nw w U) ∧ (∀ s U : State, s.WarmedH U.vm → (∀ q, q < base → U.heap[q]? = s.heap[q]?) → ZS s → ZS U)
theorem mp_G.mv (hv : mp_Mv WT ZS base) {U : State} (hW : s.WarmedH U.vm) (hh : ∀ q, q < base → U.heap[q]? = s.heap[q]?) (h : mp_G WT D cl tys ZS s) : mp_G WT D cl tys ZS U :=
  ⟨fun w hw => hv.1 w hw s U hW (h.1 w hw), va_K.moved hW.alike h.2.1, hv.2 s U hW hh h.2.2⟩
/-- nothing is run in the place of the method's bytes -/
def mp_pl (y : MethodName) : Prop := plainName y.cls = true ∨ (NativeRow.find? Jvm.natives y.cls y.name y.desc).isNone = true
/-- the callee's own facts at the caller's start -/
def mp_Mk (s : State) (y : MethodName) (bytes : ByteArray) (maxL : Nat) (ret : Option FieldType) (hs : List (Nat × Nat × Nat × Nat)) (mk : MethodId) : Prop :=
  s.methodNamed? y = some mk ∧ mp_pl y ∧ ∃ methk ck, s.vm.method? mk = some methk ∧ methk.code = some ck ∧ ck.code = bytes ∧ ck.maxLocals = maxL ∧ methk.sig.returnType = ret ∧ methk.locks = false ∧ ck.exceptionTable.toList.map (fun h => (h.startPc, h.endPc, h.handlerPc, h.catchType)) = hs
theorem mp_enter (X : Stand p l e R s m args below meth c T locs cells slots) (hx : p.tables.exec = Jvm.exec) (hv : mp_Mv WT ZS base) {g : JFrame} (hg : g.method = m) (hsize : g.locals.size = c.maxLocals) {ig : Instr} {len : Nat} (hdg : decode c.code g.pc = .ok (ig, len)) {mk : MethodId}
    (hM : mp_Met l WT D cl tys ZS base y bytes maxL ret hs d w mc ms av σ PO) (hk : mp_Mk s y bytes maxL ret hs mk) (hfr : d + 1 ≤ R.frames) (hlo : 2 * g.monitorRoom + (g.stack.map fun v => v.category).sum + (maxL + 11) + w ≤ R.locals) (hce : cells + mc ≤ R.cells) (hsl : slots + ms ≤ R.slots)
    (hG : mp_G WT D cl tys ZS s) (hB : base ≤ s.heap.size) (hH : mp_H D cl base σ T.heap) (hS : va_S (mp_A base) s.heap T.heap locs) :
    ∃ (o : Outcome) (σ' : mp_M) (t T' : State) (L : List Loc), PO o σ' t ∧ T'.heap = t.heap ∧ T'.vm = t.vm ∧ mp_H D cl base σ' T'.heap ∧ va_S (mp_A base) s.heap T'.heap (locs ++ L) ∧ T.heap.size ≤ T'.heap.size ∧ Stand p l e R s m args below meth c T' (locs ++ L) (cells + mc) (slots + ms) ∧
      (∀ v, o = .returned v → ∀ acts, Steps p.tables e below (doInvoke e (T.setTop g) acts mk av.toArray).1 (T'.setTop { g with pc := g.pc + len, stack := v.toList ++ g.stack })) ∧
      (∀ x, o = .threw x → ∀ acts, Steps p.tables e below (doInvoke e (T.setTop g) acts mk av.toArray).1 ((T'.setTop g).pushFrame (.throwing x))) := by
  obtain ⟨hn, hpl, methk, ck, hmk, hck, hby, hml, hrt, hlk, hex⟩ := hk
  have hW : s.WarmedH T.vm := X.warmed
  have hmT : T.vm.method? mk = some methk := by rw [hW.alike.method?]; exact hmk
  have hpk : T.plainMethod mk := by
    rcases hpl with hpl | hpl
    · exact hW.plainAt (fun k hk => by
        obtain ⟨k', hk', hnm⟩ := className_of_methodNamed hn
        cases hk.symm.trans hk'
        rw [hnm]; exact hpl)
    · intro k hk
      obtain ⟨k0, hk0, hnm⟩ := className_of_methodNamed hn
      obtain ⟨k', hk', he⟩ := hW.alike.2.2 _ _ hk0
      cases hk.symm.trans hk'
      have hmm : k.methods[mk.idx]? = some methk := by
        have h9 := hmT
        simp only [Vm.method?, hk, Option.bind_some] at h9
        exact h9
      have hkn : k.name = y.cls := by rw [he]; exact hnm
      obtain ⟨n1, n2⟩ := name_of_methodNamed hn hmk
      rw [Bool.or_eq_true]
      right
      unfold rowless
      rw [hmm]
      show (NativeRow.find? Jvm.natives k.name methk.name methk.desc).isNone = true
      rw [hkn, n1, n2]
      exact hpl
  obtain ⟨Y, hinv⟩ := X.into hg hsize hdg av.toArray (R' := { frames := d, cells := mc, slots := ms, locals := w }) hmT hck hlk hpk hfr (by rw [hml]; exact hlo) hce hsl
  have hlow : ∀ q, q < base → T.heap[q]? = s.heap[q]? := fun q hq => hS.2.1 q (Nat.lt_of_lt_of_le hq hB) (Nat.not_le.mpr hq)
  obtain ⟨t, st, o, hrun, hend, ⟨⟨σ', hPO, hH'⟩, hF⟩, hW', L, hsame, hL⟩ := hM p e { frames := d, cells := mc, slots := ms, locals := w } (T.calling g mk av.toArray) mk (.java g :: below) methk ck hx (Nat.le_refl _) (Nat.le_refl _) (Nat.le_refl _) (Nat.le_refl _)
    (by have h := X.named hn; exact h) hmT hck hby hml hrt hlk hex (hG.mv hv (U := T.calling g mk av.toArray) hW hlow) (Nat.le_trans hB hS.1) hH ((T.setTop g).pushFrame (.java (entryFrame mk av.toArray ck.maxLocals))) rfl Y
  rw [← hml] at st
  have hfr' : va_S (mp_A base) s.heap t.heap (locs ++ L) := ⟨Nat.le_trans hS.1 hF.1, fun q h1 h2 => (hF.2 q (Nat.lt_of_lt_of_le h1 hS.1) h2).trans (hS.2.1 q h1 h2), fun q hq => by
    rcases List.mem_append.mp hq with h | h
    · exact hS.2.2 q h
    · exact hL q h⟩
  cases o with
  | returned v =>
    obtain ⟨T', X', -, -, ht⟩ := X.outOf hg hdg hend hW' hsame
    have e1 : T'.heap = t.heap := by rw [ht]; rfl
    have e2 : T'.vm = t.vm := by rw [ht]; rfl
    refine ⟨.returned v, σ', t, T', L, hPO, e1, e2, by rw [e1]; exact hH', by rw [e1]; exact hfr', by rw [e1]; exact hF.1, X', fun v' hv' acts => ?_, fun x hx' => by cases hx'⟩
    cases hv'
    rw [hinv acts, ← ht]
    exact mp_weak st
  | threw x =>
    obtain ⟨T', X', -, -, ht⟩ := X.outOfThrown hg hend hW' hsame
    have e1 : T'.heap = t.heap := by rw [ht]; rfl
    have e2 : T'.vm = t.vm := by rw [ht]; rfl
    refine ⟨.threw x, σ', t, T', L, hPO, e1, e2, by rw [e1]; exact hH', by rw [e1]; exact hfr', by rw [e1]; exact hF.1, X', (fun v' hv' => by cases hv'), fun x' hx' acts => ?_⟩
    cases hx'
    rw [hinv acts, ← ht]
    exact mp_weak st
end MPC
