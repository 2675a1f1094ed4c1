/-! NUMBERS by their naturals: the value on top in another writing; places of arrays; comparisons. -/
section MPV
variable {p : Program} {l : Launch} {e : Env} {R : Room} {s : State} {m : MethodId} {args : Array Value} {below : List Frame} {meth : Method} {c : Code} {H : Heap} {locs : List Loc} {cells slots : Nat} {Q : State → Prop}
variable {cc : ByteArray} {nL pc : Nat} {ls : Array Slot} {rest : List Value} {D : va_G} {ar : Nat → ClassId} {base : Nat} {σ : mp_M} {a : Nat} {H0 : Heap} {own : String}
theorem mn_top {v w : Int32} (h : v = w) (k : W p l e R s m args below meth c H locs cells slots Q (F0 m pc ls (.int w :: rest))) : W p l e R s m args below meth c H locs cells slots Q (F0 m pc ls (.int v :: rest)) := by rw [h]; exact k
theorem mn_ald (x : XX D ar p s m args c cc nL own) (hH : HH D base σ H) {n : Nat} {f : Nat → Int32} (hs : σ a = some (.inl (ar 0, n, .inl f))) {j : Nat} (hj : j < n) (hn : n < 2 ^ 31) (hdg : decode cc pc = .ok (.iaload, 1))
    (kk : W p l e R s m args below meth c H locs cells slots Q (F0 m (pc + 1) ls (.int (f j) :: rest))) : W p l e R s m args below meth c H locs cells slots Q (F0 m pc ls (.int (nI j) :: .ref a :: rest)) :=
  mn_iald x hH hs (vp_in_nI hj hn) hdg (by rw [nI_clamp (Nat.lt_trans hj hn)]; exact kk)
theorem mn_ast (x : XX D ar p s m args c cc nL own) (hH : HH D base σ H) (hS0 : va_S (mp_A base) H0 H locs) {n : Nat} {f : Nat → Int32} (hs : σ a = some (.inl (ar 0, n, .inl f))) {j : Nat} {v : Int32} (hj : j < n) (hn : n < 2 ^ 31) (hdg : decode cc pc = .ok (.iastore, 1))
    (kk : ∀ (σ1 : mp_M), σ1 a = some (.inl (ar 0, n, .inl (upd f j v))) → (∀ q, q ≠ a → σ1 q = σ q) → ∀ (H1 : Heap) (locs1 : List Loc), HH D base σ1 H1 → va_S (mp_A base) H0 H1 locs1 → W p l e R s m args below meth c H1 locs1 cells slots Q (F0 m (pc + 1) ls rest)) : W p l e R s m args below meth c H locs cells slots Q (F0 m pc ls (.int v :: .int (nI j) :: .ref a :: rest)) :=
  mn_iast x hH hS0 hs (vp_in_nI hj hn) hdg (by rw [nI_clamp (Nat.lt_trans hj hn)]; exact kk)
end MPV
theorem mn_inc (A : Nat) : nI A + Int32.ofInt 1 = nI (A + 1) := nI_1 A
theorem cv_lt {a b : Nat} (ha : a < 2 ^ 31) (hb : b < 2 ^ 31) : nI a < nI b ↔ a < b := nI_ltI ha hb
theorem cv_le {a b : Nat} (ha : a < 2 ^ 31) (hb : b < 2 ^ 31) : nI a ≤ nI b ↔ a ≤ b := nI_leI ha hb
theorem cv_eq {a b : Nat} (ha : a < 2 ^ 31) (hb : b < 2 ^ 31) : nI a = nI b ↔ a = b := nI_eq ha hb
/-- a number that is one of 0 .. n-1 -/
def inR (v : Int32) (n : Nat) : Prop := ∃ j, j < n ∧ v = nI j
theorem inR_of {v : Int32} {n : Nat} (hn : n < 2 ^ 31) (h0 : ¬ v < 0) (h1 : v < nI n) : inR v n := by
  rcases pk_ix v hn with h | h | h
  · exact absurd h h0
  · exact absurd h1 (Int32.not_lt.mpr h)
  · exact h
theorem inR_lt {v : Int32} {n : Nat} (hn : n < 2 ^ 31) (h : inR v n) : ¬ v < 0 ∧ v < nI n := by
  obtain ⟨j, hj, rfl⟩ := h
  exact ⟨nI_pos (Nat.lt_trans hj hn), nI_lt hj hn⟩
