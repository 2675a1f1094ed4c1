/-! THE STORE: a world is a map from addresses to cells: no two names for one cell, so no distinctness to carry. -/
abbrev mp_M : Type := Nat → Option va_E
def mp_up (σ : mp_M) (a : Nat) (e : va_E) : mp_M := fun q => if q = a then some e else σ q
theorem mp_us (σ : mp_M) (a : Nat) (e : va_E) : mp_up σ a e a = some e := if_pos rfl
theorem mp_un (σ : mp_M) {a q : Nat} (e : va_E) (h : q ≠ a) : mp_up σ a e q = σ q := if_neg h
theorem mp_uu (σ : mp_M) (a : Nat) (e e' : va_E) : mp_up (mp_up σ a e) a e' = mp_up σ a e' := by
  funext q
  by_cases h : q = a
  · subst h; rw [mp_us, mp_us]
  · rw [mp_un _ _ h, mp_un _ _ h, mp_un _ _ h]
theorem mp_uc (σ : mp_M) {a b : Nat} (e e' : va_E) (h : a ≠ b) : mp_up (mp_up σ a e) b e' = mp_up (mp_up σ b e') a e := by
  funext q
  by_cases h1 : q = a
  · subst h1; rw [mp_un _ _ h, mp_us, mp_us]
  · by_cases h2 : q = b
    · subst h2; rw [mp_us, mp_un _ _ h1, mp_us]
    · rw [mp_un _ _ h2, mp_un _ _ h1, mp_un _ _ h1, mp_un _ _ h2]
theorem mp_id (σ : mp_M) {a : Nat} {e : va_E} (h : σ a = some e) : mp_up σ a e = σ := by
  funext q
  by_cases h1 : q = a
  · subst h1; rw [mp_us, h]
  · rw [mp_un _ _ h1]
/-- two cells of different contents lie apart -/
theorem mp_ne {σ : mp_M} {a b : Nat} {x y : va_E} (ha : σ a = some x) (hb : σ b = some y) (h : x ≠ y) : a ≠ b := by
  intro e
  subst e
  rw [ha] at hb
  exact h (Option.some.inj hb)
theorem mp_neC {σ : mp_M} {a b i j : Nat} {x y : List Value} (ha : σ a = some (.inr (i, x))) (hb : σ b = some (.inr (j, y))) (h : i ≠ j) : a ≠ b :=
  mp_ne ha hb (fun e => h (congrArg Prod.fst (Sum.inr.inj e)))
theorem mp_neA {σ : mp_M} {a b j : Nat} {x : ClassId × vp_A} {y : List Value} (ha : σ a = some (.inl x)) (hb : σ b = some (.inr (j, y))) : a ≠ b :=
  mp_ne ha hb (fun e => by cases e)
theorem mp_neO {σ : mp_M} {a b j : Nat} {x : ClassId × vp_A} {y : List Value} (hb : σ b = some (.inr (j, y))) (ha : σ a = some (.inl x)) : b ≠ a := Ne.symm (mp_neA ha hb)
/-- the heap holds the store; all of it lies from 'base' on -/
def mp_H (D : va_G) (cl : List vw_C) (base : Nat) (σ : mp_M) (H : Heap) : Prop := ∀ (a : Nat) (e : va_E), σ a = some e → base ≤ a ∧ va_at D cl (a, e) H
theorem mp_H.one {D : va_G} {cl : List vw_C} {base : Nat} {σ : mp_M} {H : Heap} (h : mp_H D cl base σ H) {a : Nat} {e : va_E} (hs : σ a = some e) : va_P D cl [(a, e)] H := by
  intro k q hk
  cases k with
  | zero =>
    have hq : q = (a, e) := by simpa using hk.symm
    subst hq
    exact (h a e hs).2
  | succ k => simp at hk
theorem mp_H.lt {D : va_G} {cl : List vw_C} {base : Nat} {σ : mp_M} {H : Heap} (h : mp_H D cl base σ H) {a : Nat} {e : va_E} (hs : σ a = some e) : a < H.size := (h a e hs).2.lt
theorem mp_H.ge {D : va_G} {cl : List vw_C} {base : Nat} {σ : mp_M} {H : Heap} (h : mp_H D cl base σ H) {a : Nat} {e : va_E} (hs : σ a = some e) : base ≤ a := (h a e hs).1
theorem mp_H.none {D : va_G} {cl : List vw_C} {base : Nat} {σ : mp_M} {H : Heap} (h : mp_H D cl base σ H) {a : Nat} (ha : H.size ≤ a) : σ a = none := by
  cases hs : σ a with
  | none => rfl
  | some e => exact absurd (h.lt hs) (by omega)
theorem mp_H.set {D : va_G} {cl : List vw_C} {base : Nat} {σ : mp_M} {H H1 : Heap} (h : mp_H D cl base σ H) {a : Nat} {e0 e : va_E} (hs : σ a = some e0) (he : va_at D cl (a, e) H1) (oq : ∀ q : Nat, q ≠ a → H1[q]? = H[q]?) : mp_H D cl base (mp_up σ a e) H1 := by
  intro q x hq
  by_cases hqa : q = a
  · subst hqa
    rw [mp_us] at hq
    cases hq
    exact ⟨(h q e0 hs).1, he⟩
  · rw [mp_un _ _ hqa] at hq
    exact ⟨(h q x hq).1, (h q x hq).2.kept (oq q hqa)⟩
theorem mp_H.push {D : va_G} {cl : List vw_C} {base : Nat} {σ : mp_M} {H H1 : Heap} (h : mp_H D cl base σ H) {e : va_E} (hb : base ≤ H.size) (he : va_at D cl (H.size, e) H1) (o1 : ∀ q : Nat, q < H.size → H1[q]? = H[q]?) : mp_H D cl base (mp_up σ H.size e) H1 := by
  intro q x hq
  by_cases hqa : q = H.size
  · subst hqa
    rw [mp_us] at hq
    cases hq
    exact ⟨hb, he⟩
  · rw [mp_un _ _ hqa] at hq
    exact ⟨(h q x hq).1, (h q x hq).2.kept (o1 q (h.lt hq))⟩
theorem mp_H.grow {D : va_G} {cl : List vw_C} {base : Nat} {σ : mp_M} {H H1 : Heap} (h : mp_H D cl base σ H) (o1 : ∀ q : Nat, q < H.size → H1[q]? = H[q]?) : mp_H D cl base σ H1 :=
  fun q x hq => ⟨(h q x hq).1, (h q x hq).2.kept (o1 q (h.lt hq))⟩
/-- what may change: what lies from base on -/
abbrev mp_A (base : Nat) : Nat → Prop := fun q => base ≤ q
theorem mp_A0 {base : Nat} {H0 : Heap} (h : base ≤ H0.size) : ∀ q, H0.size ≤ q → mp_A base q := fun _ hq => Nat.le_trans h hq
