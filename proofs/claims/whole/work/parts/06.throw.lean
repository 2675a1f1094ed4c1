/-! THROWS: a walk may be begun anew where it stands; an exception is made and thrown; it is caught. -/
section MPB
variable {p : Program} {l : Launch} {e : Env} {R : Room} {s : State} {m : MethodId} {args : Array Value} {below : List Frame} {meth : Method} {c : Code} {T : State} {locs : List Loc} {cells slots : Nat}
theorem mp_rebase (X : Stand p l e R s m args below meth c T locs cells slots) {R' : Room} (hfr : R'.frames ≤ R.frames) (hlo : R'.locals ≤ R.locals) (hce : cells + R'.cells ≤ R.cells) (hsl : slots + R'.slots ≤ R.slots) : Stand p l e R' (T.setFrames (.invoking m args :: below)) m args below meth c T [] 0 0 := by
  obtain ⟨g₀, hfrm⟩ := X.frames_eq
  have hcur : T.cur < T.threads.size := State.cur_lt_of_frames hfrm
  have hF : (T.setFrames (.invoking m args :: below)).frames = .invoking m args :: below := State.frames_setFrames _ hcur
  have hm' : (T.setFrames (.invoking m args :: below)).vm.method? m = some meth := X.method'
  have hlim : e.platform.stackLimits (T.setFrames (.invoking m args :: below)).me = e.platform.stackLimits s.me := by rw [State.stackLimits_setFrames]; exact X.limits
  have hby : (T.setFrames (.invoking m args :: below)).me.stackBytes = s.me.stackBytes := by rw [State.stackBytes_setFrames]; exact X.bytes
  refine ⟨X.admits, X.cas, X.clock, hF, ?_, ?_, hm', X.code, X.here, X.tail, State.WarmedH.refl (T.setFrames (.invoking m args :: below)), by rw [hlim]; exact X.limits, by rw [hby]; exact X.bytes, ?_⟩
  · have hr := X.room
    have h1 := State.localsInUse_invoking X.frames X.method X.code
    have h2 := State.localsInUse_invoking hF hm' X.code
    have h3 := X.heapSize
    have h4 := X.used
    have h5 : (T.setFrames (.invoking m args :: below)).heap.size = T.heap.size := rfl
    have h6 : (T.setFrames (.invoking m args :: below)).slotsUsed = T.slotsUsed := rfl
    have h7 : (T.setFrames (.invoking m args :: below)).slotsTrue = true := X.book
    simp only [State.hasRoom, Bool.and_eq_true, decide_eq_true_eq] at hr ⊢
    rw [X.frames, List.length_cons] at hr
    rw [hF, List.length_cons, hlim, hby, h5, h6, h2]
    rw [h1] at hr
    refine ⟨⟨⟨⟨by omega, by omega, by omega, by omega, by omega, by omega⟩, by omega⟩, by omega⟩, h7⟩
  · have hh := X.hears
    have hal := X.warmed.alike
    have hcd : ∀ q, (T.setFrames (.invoking m args :: below)).code? q = s.code? q := fun q => by
      rw [State.code?_eq, State.code?_eq]
      show (T.vm.method? q).bind _ = _
      rw [hal.method?]
    unfold State.hears at hh ⊢
    cases below with
    | nil => rw [hm']; rw [X.method] at hh; exact hh
    | cons f r =>
      cases f with
      | java g => simp only at hh ⊢; rw [hcd]; exact hh
      | native g => rfl
      | proc g => rfl
      | _ => simp only at hh ⊢; rw [hm']; rw [X.method] at hh; exact hh
  · obtain ⟨th, hth, -⟩ := State.frames_cons hF
    obtain ⟨th2, hth2, -⟩ := State.frames_cons hfrm
    have h := (State.sameButNew.refl (T.setFrames (.invoking m args :: below)) hth).setFrames T.frames (State.cur_lt_of_frames hF)
    rw [State.setFrames_setFrames, State.setFrames_self hth2] at h
    exact h
/-- what is as it was since the walk was begun anew -/
theorem mp_same {fs : List Frame} {U : State} {k n : Nat} (h : (T.setFrames fs).sameButNew ({ U with vm := (T.setFrames fs).vm } : State) [] k n) : T.heap.size ≤ U.heap.size ∧ ∀ q, q < T.heap.size → U.heap[q]? = T.heap[q]? := by
  refine ⟨h.2.1, fun q hq => ?_⟩
  have hc : (T.setFrames fs).heap[q]? = some T.heap[q] := Array.getElem?_eq_getElem hq
  obtain ⟨c', h1, h2, h3, h4⟩ := h.2.2.2.2.2 q _ hc
  have h5 : U.heap[q]? = some c' := h1
  rw [h5, Array.getElem?_eq_getElem hq]
  have h6 : c'.slots = (T.heap[q]).slots := by
    apply Array.ext_getElem?
    intro i
    exact h4 i (by simp)
  rw [h2, h6]
theorem mp_sameT (X : Stand p l e R s m args below meth c T locs cells slots) {fs : List Frame} {U : State} {k n : Nat} (h : (T.setFrames fs).sameButNew ({ U with vm := (T.setFrames fs).vm } : State) [] k n) : s.sameButNew ({ U with vm := s.vm } : State) locs (cells + k) (slots + n) := by
  have h2 : T.sameButNew ({ U with vm := T.vm } : State) [] k n := by
    obtain ⟨a1, a2⟩ := h
    refine ⟨?_, a2⟩
    rw [State.setFrames_setFrames] at a1
    exact a1
  have h3 := X.same.trans (h2.setVm s.vm)
  rw [List.append_nil] at h3
  exact h3
end MPB
/-- an exception's cell -/
def mp_T (cls : String) (a : Addr) (t : State) : Prop := ∃ cell : Cell, t.heap[a]? = some cell ∧ cell.vm = .none ∧ t.vm.findClass cls = some cell.cls
