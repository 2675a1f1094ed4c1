/-! What is kept beside the tables' words: two statics of Throwable hold a reference or null, the texts of the messages are there, one exception is no other. -/
abbrev mp_iae : String := "java/lang/IllegalArgumentException"
abbrev mp_ise : String := "java/lang/IllegalStateException"
abbrev mp_thr : String := "java/lang/Throwable"
abbrev mp_ste : String := "[Ljava/lang/StackTraceElement;"
abbrev mp_lst : String := "Ljava/util/List;"
def mp_strs : List (Nat × String) := [(46, "the prescription is registered already"), (57, "the prescription is not registered"), (70, "all supplies are decided, or the day is too near the last one"), (101, "the shop does not ask"), (189, "a number is not as it may be"), (192, "there is no such shop"), (194, "there is no such prescription"), (196, "there is no such letter"), (198, "the shop is down")]
def mp_ZS (base : Nat) (s : State) : Prop := va_Zq mp_thr "UNASSIGNED_STACK" mp_ste (mp_A base) s s.heap ∧ va_Zq mp_thr "SUPPRESSED_SENTINEL" mp_lst (mp_A base) s s.heap ∧ (∀ q ∈ mp_strs, ∃ a, vk_R "SupplyGrid" q.1 q.2 a s) ∧ va_Nw (.not (.castable mp_ise mp_iae)) s ∧ va_Nw (.laysStatic mp_thr "UNASSIGNED_STACK" mp_ste) s ∧ va_Nw (.laysStatic mp_thr "SUPPRESSED_SENTINEL" mp_lst) s
theorem mp_Zq_isRef {C n d : String} {A : Nat → Prop} {U : State} (h : va_Zq C n d A U U.heap) (args : Array Value) : (Cond.isRef (.static C n d)).before args U = true := by
  rcases h with h | ⟨t, h⟩
  · obtain ⟨cf, kf, fi, f, a, cell, h1, h2, h3, h4, h5, h6, h7, h8⟩ := h
    simp [Cond.before, Cond.holds, Cond.value, Term.eval, State.fieldNamed?, h1, h2, h4, h5, h6, h7]
  · obtain ⟨cf, kf, fi, f, a, cell, h1, h2, h3, h4, h5, h6, h7, h8⟩ := h
    simp [Cond.before, Cond.holds, Cond.value, Term.eval, State.fieldNamed?, h1, h2, h4, h5, h6, h7]
theorem mp_lays_mv {C n d : String} {base : Nat} {s U : State} (hW : s.WarmedH U.vm) (hh : ∀ q, q < base → U.heap[q]? = s.heap[q]?) (hz : va_Zq C n d (mp_A base) s s.heap) (h : va_Nw (.laysStatic C n d) s) : va_Nw (.laysStatic C n d) U := by
  obtain ⟨c, k, i, f, a, cell, hc, hi, hst, ha, hcell, hs, hcls, hlt, hty⟩ := Cond.laysStatic_spec h
  have hlow : a < base := by
    rcases hz with hz | ⟨t, hz⟩
    · obtain ⟨cf, kf, fi, f', a', cell', h1, h2, h3, h4, h5, h6, h7, h8⟩ := hz
      cases hi.symm.trans h1
      cases ha.symm.trans h4
      exact Nat.not_le.mp h8
    · obtain ⟨cf, kf, fi, f', a', cell', h1, h2, h3, h4, h5, h6, h7, h8⟩ := hz
      cases hi.symm.trans h1
      cases ha.symm.trans h4
      exact Nat.not_le.mp h8
  obtain ⟨k', hi', he⟩ := State.fieldFound?_setVm hW.alike hi
  have hi2 : U.fieldFound? C n d = some (c, k', i, f) := hi'
  have hc2 : U.vm.findClass C = some c := by rw [hW.alike.findClass]; exact hc
  have ha2 : k'.statics = some a := by rw [he]; exact ha
  have hty2 : k'.staticTypes[f.slot]? = some f.type := by rw [he]; exact hty
  have hcell2 : U.heap[a]? = some cell := by rw [hh a hlow]; exact hcell
  subst hcls
  simp [va_Nw, Cond.before, Cond.holds, Cond.value, hc2, hi2, hst, ha2, hcell2, hs, hlt, hty2]
theorem mp_notcast {s : State} {A B : String} (h : va_Nw (.not (.castable A B)) s) {a b : ClassId} (ha : s.vm.findClass A = some a) (hb : s.vm.findClass B = some b) : s.vm.assignable a b = false := by
  have hv := Cond.holds_not_iff.mp h
  simp only [Cond.value, ha, hb] at hv
  exact Option.some.inj hv
theorem mp_notcast_moved {s U : State} (hvm : s.vm.Alike U.vm) {A B : String} (h : va_Nw (.not (.castable A B)) s) : va_Nw (.not (.castable A B)) U := by
  have hv := Cond.holds_not_iff.mp h
  refine Cond.holds_not_iff.mpr ?_
  simp only [Cond.value] at hv ⊢
  rw [hvm.findClass, hvm.findClass]
  cases h1 : s.vm.findClass A with
  | none => rw [h1] at hv; simpa using hv
  | some a =>
    cases h2 : s.vm.findClass B with
    | none => rw [h1, h2] at hv; simpa using hv
    | some b =>
      rw [h1, h2] at hv
      simp only at hv ⊢
      rw [hvm.assignable]
      exact hv
theorem mp_ZS_mv (base : Nat) : ∀ s U : State, s.WarmedH U.vm → (∀ q, q < base → U.heap[q]? = s.heap[q]?) → mp_ZS base s → mp_ZS base U := by
  intro s U hW hh h
  have hq : ∀ a : Nat, a < s.heap.size → ¬ mp_A base a → U.heap[a]? = s.heap[a]? := fun a _ ha => hh a (Nat.not_le.mp ha)
  exact ⟨va_Zq.moved hW.alike (h.1.kept hq), va_Zq.moved hW.alike (h.2.1.kept hq), fun q hq2 => by
    obtain ⟨a, ha⟩ := h.2.2.1 q hq2
    exact ⟨a, vk_R.warm hW ha⟩, mp_notcast_moved hW.alike h.2.2.2.1, mp_lays_mv hW hh h.1 h.2.2.2.2.1, mp_lays_mv hW hh h.2.1 h.2.2.2.2.2⟩
/-- a word of the tables, or one of the two statics' -/
def mp_At (WT : List Cond) (w : Cond) : Prop := w ∈ WT ∨ w = .isRef (.static mp_thr "UNASSIGNED_STACK" mp_ste) ∨ w = .isRef (.static mp_thr "SUPPRESSED_SENTINEL" mp_lst) ∨ w = .laysStatic mp_thr "UNASSIGNED_STACK" mp_ste ∨ w = .laysStatic mp_thr "SUPPRESSED_SENTINEL" mp_lst
/-- words that read the tables alone -/
def mp_Us (WT : List Cond) : Prop := ∀ w ∈ WT, ∀ (A : Array Value) (U : State), va_Nw w U → w.before A U = true
section MPT
variable {p : Program} {l : Launch} {e : Env} {R : Room} {s : State} {m : MethodId} {args : Array Value} {below : List Frame} {meth : Method} {c : Code} {H : Heap} {locs : List Loc} {cells slots : Nat} {Q : State → Prop}
variable {cc : ByteArray} {nL pc : Nat} {ls : Array Slot} {rest : List Value} {WT : List Cond} {D : va_G} {cl : List vw_C} {tys : List (ClassId × FieldType)} {base mc ms : Nat} {own : String} {post : Outcome → State → Prop}
theorem mp_throwS (x : mp_X WT D cl tys p s m args c cc nL own) (hv : mp_Mv WT (mp_ZS base) base) (hot : mp_Us WT) (hG : mp_G WT D cl tys (mp_ZS base) s) (hB : base ≤ s.heap.size) (hlen : ls.size = nL) (hfl : l.flags = flags0) (hlocks : meth.locks = false) (hh : c.exceptionTable.toList.map (fun h => (h.startPc, h.endPc, h.handlerPc, h.catchType)) = [])
    {cls tx : String} {ia ib ic : Nat} (hcls : Bundle.fit cls = true) (hcl : Cond.classLink own ia cls ∈ WT) (hinst : Cond.instantiable cls 6 ∈ WT) (hini : Cond.initialized cls ∈ WT) (hat : ∀ w ∈ Bundle.ownAtoms own ic cls ["java/lang/RuntimeException", "java/lang/Exception"], mp_At WT w) (hown2 : own = "SupplyGrid") (hstr : (ib, tx) ∈ mp_strs)
    (hd0 : decode cc pc = .ok (.new ia, 3)) (hd3 : decode cc (pc + 3) = .ok (.dup, 1)) (hd4 : decode cc (pc + 4) = .ok (.ldc ib, 2)) (hd6 : decode cc (pc + 6) = .ok (.invokespecial ic, 3)) (hd9 : decode cc (pc + 9) = .ok (.athrow, 1))
    (hfr : 6 ≤ R.frames) (hlo : (rest.map fun v => v.category).sum + 82 ≤ R.locals) (hce : cells + 1 ≤ R.cells) (hsl : slots + 6 ≤ R.slots) (hce2 : cells + 1 ≤ mc) (hsl2 : slots + 6 ≤ ms) (hS : va_S (mp_A base) s.heap H locs)
    (hq : ∀ t : State, mp_T cls H.size t → H.size ≤ t.heap.size → (∀ q, q < H.size → t.heap[q]? = H[q]?) → s.WarmedH t.vm → post (.threw H.size) t) :
    W p l e R s m args below meth c H locs cells slots (mp_Q below s mc ms base post) (F0 m pc ls rest) := by
  intro T hT X
  obtain ⟨hx, hb, hml, hown, -, -⟩ := x
  have htr : e.platform.stackTraces = false := Launch.traces_off hfl X.admits
  have hnil : c.exceptionTable.toList = [] := List.map_eq_nil_iff.mp hh
  have Y := mp_rebase X (R' := { frames := R.frames, locals := R.locals, cells := 1, slots := 6 }) (Nat.le_refl _) (Nat.le_refl _) hce hsl
  have hlow : ∀ q, q < base → T.heap[q]? = s.heap[q]? := fun q hq => by rw [hT]; exact hS.2.1 q (Nat.lt_of_lt_of_le hq hB) (Nat.not_le.mpr hq)
  have hG' : mp_G WT D cl tys (mp_ZS base) (T.setFrames (.invoking m args :: below)) := hG.mv hv (U := T.setFrames (.invoking m args :: below)) X.warmed hlow
  have hts' : ∀ w ∈ WT, w.before args (T.setFrames (.invoking m args :: below)) = true := fun w hw => hot w hw _ _ (hG'.1 w hw)
  have hown' : (T.setFrames (.invoking m args :: below)).vm.findClass own = some m.cls := by
    show T.vm.findClass own = _
    rw [X.warmed.alike.findClass]; exact hown
  obtain ⟨qs, hqs⟩ := hG'.2.2.2.2.1 (ib, tx) hstr
  have hat' : ∀ w ∈ Bundle.ownAtoms own ic cls ["java/lang/RuntimeException", "java/lang/Exception"], w.before args (T.setFrames (.invoking m args :: below)) = true := fun w hw => by
    rcases hat w hw with h | rfl | rfl | rfl | rfl
    · exact hts' w h
    · exact mp_Zq_isRef hG'.2.2.1 args
    · exact mp_Zq_isRef hG'.2.2.2.1 args
    · exact hG'.2.2.2.2.2.2.1
    · exact hG'.2.2.2.2.2.2.2
  have K : W p l e { frames := R.frames, locals := R.locals, cells := 1, slots := 6 } (T.setFrames (.invoking m args :: below)) m args below meth c H [] 0 0 (mp_Q below s mc ms base post) (F0 m pc ls rest) := by
    refine W.newc hx hb hown' (hts' _ hcl) (hts' _ hinst) (hts' _ hini) rfl hd0 (Nat.le_refl _) (Nat.le_refl _) fun cC kC f1 f2 f3 f4 => ?_
    refine lv_dup hx hb hd3 rfl ?_
    refine va_ldcS hx hb hown' (tx := tx) (q := qs) (by rw [hown2]; exact hqs) hd4 ?_
    intro T2 hT2 Y2
    have hz2 : T2.heap[H.size]? = some (freshCell cC kC) := by rw [hT2]; simp
    obtain ⟨U, st, hrun, hend, hW, hsame, ce, hce', hoc⟩ := Y2.ctorThrowS hx htr (own := own) (cls := cls) (names := ["java/lang/RuntimeException", "java/lang/Exception"]) (ic := ic) hown' hcls (by decide +kernel) hat' (fun _ h => by cases h) f1 f2 hz2 (by show T.heap.size ≤ H.size; rw [hT]; exact Nat.le_refl _) (msg := .ref qs) rfl
      (g := F0 m (pc + 6) ls (.ref qs :: .ref H.size :: .ref H.size :: rest)) rfl (hlen.trans hml.symm) rfl rfl rfl (by rw [hb]; exact hd6) (by rw [hb]; exact hd9) (fun y hy => by rw [hnil] at hy; cases hy) (by show 2 + 3 < R.frames; omega)
      (by show 2 * 0 + (1 + (rest.map fun v => v.category).sum) + (13 * (2 + 1) + 42) ≤ R.locals; omega)
    have hU := mp_same hsame
    have hWs : s.WarmedH U.vm := State.WarmedH.trans X.warmed hW
    refine ⟨U, st, .threw H.size, hrun, hend, hq U ⟨ce, hce', hoc.vm, ?_⟩ ?_ ?_ hWs, hWs, locs, (mp_sameT X hsame).mono hce2 hsl2, hS.2.2⟩
    · rw [hW.alike.findClass]; exact hoc.cls
    · have := hU.1; rw [hT] at this; exact this
    · intro q hq2
      have := hU.2 q (by rw [hT]; exact hq2)
      rw [this, hT]
  exact K T hT Y
end MPT
