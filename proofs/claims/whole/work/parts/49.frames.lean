/-! FRAMES of constructors: old cells but one are as they were. -/
def FRM (a : Nat) (σ σ1 : mp_M) : Prop := ∀ y, y ≠ a → σ y ≠ none → σ1 y = σ y
section FRS
variable {σ σ1 σ2 : mp_M} {a b q : Nat} {e : va_E}
theorem FRM_id : FRM a σ σ := fun _ _ _ => rfl
theorem sn_ (h : σ a = some e) : σ a ≠ none := fun z => by rw [h] at z; cases z
theorem FRM_old (fr : FRM a σ σ1) (ha : σ1 a = some e) (hq : σ1 q = none) : σ q = none := by
  cases h : σ q with
  | none => rfl
  | some y =>
    have h1 : q ≠ a := fun z => by rw [z, ha] at hq; cases hq
    have h2 := fr q h1 (sn_ h)
    rw [hq, h] at h2
    cases h2
theorem FRM_A (fr : FRM a σ σ1) (o : ∀ y, y ≠ a → σ2 y = σ1 y) : FRM a σ σ2 := fun y h1 h2 => (o y h1).trans (fr y h1 h2)
theorem FRM_N (fr : FRM a σ σ1) (hq : σ q = none) (o : ∀ y, y ≠ q → σ2 y = σ1 y) : FRM a σ σ2 := fun y h1 h2 => (o y (fun z => h2 (by rw [z]; exact hq))).trans (fr y h1 h2)
theorem FRM_C (fr : FRM a σ σ1) (hq : σ q = none) (o : FRM q σ1 σ2) : FRM a σ σ2 := fun y h1 h2 => (o y (fun z => h2 (by rw [z]; exact hq)) (by rw [fr y h1 h2]; exact h2)).trans (fr y h1 h2)
theorem FRM_D (fr : FRM a σ σ1) (o : FRM a σ1 σ2) : FRM a σ σ2 := fun y h1 h2 => (o y h1 (by rw [fr y h1 h2]; exact h2)).trans (fr y h1 h2)
theorem FRM_f (o : FRM q σ1 σ2) (h : σ1 b = some e) (hne : b ≠ q) : σ2 b = some e := (o b hne (sn_ h)).trans h
end FRS
theorem ofn_ext {N : Nat} {f g : Nat → Value} (h : ∀ j, j < N → f j = g j) (cA : ClassId) : arrV cA N f = arrV cA N g := by
  have h1 : (fun j : Fin N => f j.val) = fun j : Fin N => g j.val := funext fun j => h j.val j.isLt
  unfold arrV
  rw [h1]
/-- what lies behind an array's end is nobody's business -/
theorem arr_ext {D : va_G} {base : Nat} {σ : mp_M} {H : Heap} (hH : HH D base σ H) {a n : Nat} {cA : ClassId} {f f' : Nat → Option Nat} (h : σ a = some (.inl (cA, n, .inr (.inr (.inr (.inr f)))))) (hf : ∀ j, j < n → f j = f' j) : HH D base (mp_up σ a (.inl (cA, n, .inr (.inr (.inr (.inr f')))))) H := by
  have hc : vp_cell cA (n, .inr (.inr (.inr (.inr f)))) = vp_cell cA (n, .inr (.inr (.inr (.inr f')))) := by
    rw [vp_cell_q, vp_cell_q]
    exact ofn_ext (fun j hj => by rw [hf j hj]) cA
  intro q y hq
  by_cases hqa : q = a
  · subst hqa
    rw [mp_us] at hq
    cases hq
    refine ⟨(hH q _ h).1, ?_⟩
    show H[q]? = some (vp_cell cA (n, _))
    rw [← hc]
    exact (hH q _ h).2
  · rw [mp_un _ _ hqa] at hq
    exact hH q y hq
/-- contracts may be weakened -/
theorem CN_w {l : Launch} {D : va_G} {ar : Nat → ClassId} {base : Nat} {y : MethodName} {bytes : ByteArray} {maxL : Nat} {rt : Option FieldType} {hs : List (Nat × Nat × Nat × Nat)} {d w mc ms : Nat} {av : List Value} {σ : mp_M} {PO PO' : Outcome → mp_M → State → Prop} {d' w' : Nat} (h : CN l D ar base y bytes maxL rt hs d w mc ms av σ PO) (hd : d ≤ d') (hw : w ≤ w') (hP : ∀ o σ' t, PO o σ' t → PO' o σ' t) : CN l D ar base y bytes maxL rt hs d' w' mc ms av σ PO' := by
  intro p e R s m below meth c hx hfr hlo hce hsl hnm hmt hcd hb hml hr hlk hex hG hB hH T hT X
  obtain ⟨t, st, o, h1, h2, ⟨⟨σ', hPO, hH'⟩, hF⟩, h4⟩ := h p e R s m below meth c hx (Nat.le_trans hd hfr) (Nat.le_trans hw hlo) hce hsl hnm hmt hcd hb hml hr hlk hex hG hB hH T hT X
  exact ⟨t, st, o, h1, h2, ⟨⟨σ', hP _ _ _ hPO, hH'⟩, hF⟩, h4⟩
theorem W_cs {p : Program} {l : Launch} {e : Env} {R : Room} {s : State} {m : MethodId} {args : Array Value} {below : List Frame} {meth : Method} {c : Code} {H : Heap} {locs : List Loc} {cells slots cells' slots' : Nat} {Q : State → Prop} {g : JFrame} (h1 : cells = cells') (h2 : slots = slots') (k : W p l e R s m args below meth c H locs cells' slots' Q g) : W p l e R s m args below meth c H locs cells slots Q g := by
  rw [h1, h2]; exact k
theorem CN_wm {l : Launch} {D : va_G} {ar : Nat → ClassId} {base : Nat} {y : MethodName} {bytes : ByteArray} {maxL : Nat} {rt : Option FieldType} {hs : List (Nat × Nat × Nat × Nat)} {d w mc ms : Nat} {av : List Value} {σ : mp_M} {PO PO' : Outcome → mp_M → State → Prop} {d' w' mc' ms' : Nat} (h : CN l D ar base y bytes maxL rt hs d w mc ms av σ PO) (hd : d ≤ d') (hw : w ≤ w') (hmc : mc ≤ mc') (hms : ms ≤ ms') (hP : ∀ o σ' t, PO o σ' t → PO' o σ' t) : CN l D ar base y bytes maxL rt hs d' w' mc' ms' av σ PO' := by
  intro p e R s m below meth c hx hfr hlo hce hsl hnm hmt hcd hb hml hr hlk hex hG hB hH T hT X
  obtain ⟨t, st, o, h1, h2, ⟨⟨σ', hPO, hH'⟩, hF⟩, h4, L, h5, h6⟩ := h p e R s m below meth c hx (Nat.le_trans hd hfr) (Nat.le_trans hw hlo) (Nat.le_trans hmc hce) (Nat.le_trans hms hsl) hnm hmt hcd hb hml hr hlk hex hG hB hH T hT X
  exact ⟨t, st, o, h1, h2, ⟨⟨σ', hP _ _ _ hPO, hH'⟩, hF⟩, h4, L, h5.mono hmc hms, h6⟩
