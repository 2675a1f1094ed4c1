/-! GROWING LAYOUTS: letters, desks, prescriptions, the row, the grid, the model. -/
section GRW
variable {ar : Nat → ClassId} {ad : Nat → Nat → Nat} {rg : Nat → Bool} {pl : Nat → Nat} {V M : fV} {σ σ1 : mp_M} {L : Nat → Nat → Prop}
def NOT (L : Nat → Nat → Prop) (ad : Nat → Nat → Nat) (q : Nat) : Prop := ∀ kd i, L kd i → ad kd i ≠ q
theorem NOT_new {q : Nat} (h : LayP L ar ad rg pl V M σ) (hq : σ q = none) : NOT L ad q := LayP_ne h hq
theorem NOT_adu {k0 i0 q q' : Nat} (h : NOT L ad q') (hL : ¬ L k0 i0) (hne : q ≠ q') : NOT (fun kd i => L kd i ∨ (kd = k0 ∧ i = i0)) (adu ad k0 i0 q) q' := by
  intro kd i hl
  rcases hl with hl | ⟨rfl, rfl⟩
  · rw [adu_o (fun z => hL (by rw [← z.1, ← z.2]; exact hl))]; exact h kd i hl
  · rw [adu_s]; exact hne
/-- one more cell: the store may have changed elsewhere -/
theorem LayP_one {k0 i0 q : Nat} (h : LayP L ar ad rg pl V M σ) (h1 : σ q = some (fc ar (adu ad k0 i0 q) rg pl V M k0 i0)) (hne : NOT L ad q) (hL : ¬ L k0 i0) (hf : ∀ kd i, L kd i → ¬ rfs kd i k0 i0) : LayP (fun kd i => L kd i ∨ (kd = k0 ∧ i = i0)) ar (adu ad k0 i0 q) rg pl V M σ := LayP_ext h h1 hne hL hf
theorem LayP_frm {a : Nat} (h : LayP L ar ad rg pl V M σ) (hne : NOT L ad a) (o : FRM a σ σ1) : LayP L ar ad rg pl V M σ1 := LayP_keep h (fun kd i hl => o _ (hne kd i hl) (sn_ (h.1 kd i hl)))
def ad3 (ad : Nat → Nat → Nat) (t a b1 b2 : Nat) : Nat → Nat → Nat := adu (adu (adu ad 6 t b2) 5 t b1) 4 t a
def L3 (L : Nat → Nat → Prop) (t : Nat) : Nat → Nat → Prop := fun kd i => ((L kd i ∨ (kd = 6 ∧ i = t)) ∨ (kd = 5 ∧ i = t)) ∨ (kd = 4 ∧ i = t)
/-- a letter's three cells -/
theorem LayP_letter {t a b1 b2 : Nat} (h : LayP L ar ad rg pl V M σ) (ha : NOT L ad a) (hb1 : NOT L ad b1) (hb2 : NOT L ad b2) (ne1 : b1 ≠ a) (ne2 : b2 ≠ a) (ne3 : b2 ≠ b1) (hL : ∀ kd, 4 ≤ kd → kd ≤ 6 → ¬ L kd t) (hf : ∀ kd i k0, L kd i → 4 ≤ k0 → k0 ≤ 6 → ¬ rfs kd i k0 t)
    (c1 : σ a = some (.inr (2, [.ref b1, .int (V 44 t), .int (V 45 t), .int (V 46 t), .int (V 47 t), .int (V 48 t), .int (V 49 t), .int (V 50 t), .int (V 51 t)]))) (c2 : σ b1 = some (.inr (4, [.ref b2, .int (V 52 t)]))) (c3 : σ b2 = some (.inl (ar 0, 12, .inl (V (1000 + t))))) :
    LayP (L3 L t) ar (ad3 ad t a b1 b2) rg pl V M σ := by
  have s1 := LayP_one (k0 := 6) (i0 := t) (q := b2) h c3 hb2 (hL 6 (by decide) (by decide)) (fun kd i hl => hf kd i 6 hl (by decide) (by decide))
  have n1 := NOT_adu (k0 := 6) (i0 := t) (q := b2) hb1 (hL 6 (by decide) (by decide)) ne3
  have n2 := NOT_adu (k0 := 6) (i0 := t) (q := b2) ha (hL 6 (by decide) (by decide)) ne2
  have l5 : ¬ (L 5 t ∨ ((5 : Nat) = 6 ∧ t = t)) := fun z => by
    rcases z with z | z
    · exact hL 5 (by decide) (by decide) z
    · exact absurd z.1 (by decide)
  have s2 := LayP_one (k0 := 5) (i0 := t) (q := b1) s1 (by
    rw [c2]
    show _ = some (.inr (4, [.ref (adu (adu ad 6 t b2) 5 t b1 6 t), .int (V 52 t)]) : va_E)
    rw [adu_o (by omega), adu_s]) n1 l5 (fun kd i hl => by
    rcases hl with hl | ⟨rfl, rfl⟩
    · exact hf kd i 5 hl (by decide) (by decide)
    · unfold rfs; omega)
  have n3 := NOT_adu (k0 := 5) (i0 := t) (q := b1) n2 l5 ne1
  have l4 : ¬ ((L 4 t ∨ ((4 : Nat) = 6 ∧ t = t)) ∨ ((4 : Nat) = 5 ∧ t = t)) := fun z => by
    rcases z with (z | z) | z
    · exact hL 4 (by decide) (by decide) z
    · exact absurd z.1 (by decide)
    · exact absurd z.1 (by decide)
  exact LayP_one (k0 := 4) (i0 := t) (q := a) s2 (by
    rw [c1]
    show _ = some (.inr (2, [.ref (adu (adu (adu ad 6 t b2) 5 t b1) 4 t a 5 t), .int (V 44 t), .int (V 45 t), .int (V 46 t), .int (V 47 t), .int (V 48 t), .int (V 49 t), .int (V 50 t), .int (V 51 t)]) : va_E)
    rw [adu_o (by omega), adu_s]) n3 l4 (fun kd i hl => by
    rcases hl with (hl | ⟨rfl, rfl⟩) | ⟨rfl, rfl⟩
    · exact hf kd i 4 hl (by decide) (by decide)
    · unfold rfs; omega
    · unfold rfs; omega)
def ad4 (ad : Nat → Nat → Nat) (t a b1 b2 b3 : Nat) : Nat → Nat → Nat := adu (adu (adu (adu ad 11 t b2) 10 t b1) 12 t b3) 9 t a
def L4 (L : Nat → Nat → Prop) (t : Nat) : Nat → Nat → Prop := fun kd i => (((L kd i ∨ (kd = 11 ∧ i = t)) ∨ (kd = 10 ∧ i = t)) ∨ (kd = 12 ∧ i = t)) ∨ (kd = 9 ∧ i = t)
/-- a desk's four cells -/
theorem LayP_desk {t a b1 b2 b3 : Nat} (h : LayP L ar ad rg pl V M σ) (ha : NOT L ad a) (hb1 : NOT L ad b1) (hb2 : NOT L ad b2) (hb3 : NOT L ad b3) (ne1 : b1 ≠ a) (ne2 : b2 ≠ a) (ne3 : b2 ≠ b1) (ne4 : b1 ≠ b3) (ne5 : b2 ≠ b3) (ne6 : b3 ≠ a) (hL : ∀ kd, 9 ≤ kd → kd ≤ 12 → ¬ L kd t) (hf : ∀ kd i k0, L kd i → 9 ≤ k0 → k0 ≤ 12 → ¬ rfs kd i k0 t)
    (c1 : σ a = some (.inr (1, [.int (V 63 t), .int (V 64 t), .ref b1, .ref b3, .int (V 30 t), .int (V 31 t), .int (V 32 t), .int (V 33 t)]))) (c2 : σ b1 = some (.inr (4, [.ref b2, .int (V 34 t)]))) (c3 : σ b2 = some (.inl (ar 0, 12, .inl (V (100 + t)))))
    (c4 : σ b3 = some (.inr (0, [.int (V 36 t), .int (V 37 t), .int (V 38 t), .int (V 39 t), .int (V 40 t), .int (V 41 t), .int (V 42 t), .int (V 43 t)]))) :
    LayP (L4 L t) ar (ad4 ad t a b1 b2 b3) rg pl V M σ := by
  have s1 := LayP_one (k0 := 11) (i0 := t) (q := b2) h c3 hb2 (hL 11 (by decide) (by decide)) (fun kd i hl => hf kd i 11 hl (by decide) (by decide))
  have n1 := NOT_adu (k0 := 11) (i0 := t) (q := b2) hb1 (hL 11 (by decide) (by decide)) ne3
  have n2 := NOT_adu (k0 := 11) (i0 := t) (q := b2) ha (hL 11 (by decide) (by decide)) ne2
  have n3 := NOT_adu (k0 := 11) (i0 := t) (q := b2) hb3 (hL 11 (by decide) (by decide)) ne5
  have l10 : ¬ (L 10 t ∨ ((10 : Nat) = 11 ∧ t = t)) := fun z => by
    rcases z with z | z
    · exact hL 10 (by decide) (by decide) z
    · exact absurd z.1 (by decide)
  have s2 := LayP_one (k0 := 10) (i0 := t) (q := b1) s1 (by
    rw [c2]
    show _ = some (.inr (4, [.ref (adu (adu ad 11 t b2) 10 t b1 11 t), .int (V 34 t)]) : va_E)
    rw [adu_o (by omega), adu_s]) n1 l10 (fun kd i hl => by
    rcases hl with hl | ⟨rfl, rfl⟩
    · exact hf kd i 10 hl (by decide) (by decide)
    · unfold rfs; omega)
  have n4 := NOT_adu (k0 := 10) (i0 := t) (q := b1) n2 l10 ne1
  have n5 := NOT_adu (k0 := 10) (i0 := t) (q := b1) n3 l10 ne4
  have l12 : ¬ ((L 12 t ∨ ((12 : Nat) = 11 ∧ t = t)) ∨ ((12 : Nat) = 10 ∧ t = t)) := fun z => by
    rcases z with (z | z) | z
    · exact hL 12 (by decide) (by decide) z
    · exact absurd z.1 (by decide)
    · exact absurd z.1 (by decide)
  have s3 := LayP_one (k0 := 12) (i0 := t) (q := b3) s2 c4 n5 l12 (fun kd i hl => by
    rcases hl with (hl | ⟨rfl, rfl⟩) | ⟨rfl, rfl⟩
    · exact hf kd i 12 hl (by decide) (by decide)
    · unfold rfs; omega
    · unfold rfs; omega)
  have n6 := NOT_adu (k0 := 12) (i0 := t) (q := b3) n4 l12 ne6
  have l9 : ¬ (((L 9 t ∨ ((9 : Nat) = 11 ∧ t = t)) ∨ ((9 : Nat) = 10 ∧ t = t)) ∨ ((9 : Nat) = 12 ∧ t = t)) := fun z => by
    rcases z with ((z | z) | z) | z
    · exact hL 9 (by decide) (by decide) z
    · exact absurd z.1 (by decide)
    · exact absurd z.1 (by decide)
    · exact absurd z.1 (by decide)
  exact LayP_one (k0 := 9) (i0 := t) (q := a) s3 (by
    rw [c1]
    show _ = some (.inr (1, [.int (V 63 t), .int (V 64 t), .ref (adu (adu (adu (adu ad 11 t b2) 10 t b1) 12 t b3) 9 t a 10 t), .ref (adu (adu (adu (adu ad 11 t b2) 10 t b1) 12 t b3) 9 t a 12 t), .int (V 30 t), .int (V 31 t), .int (V 32 t), .int (V 33 t)]) : va_E)
    rw [adu_o (k := 10) (by omega), adu_o (k := 10) (by omega), adu_s, adu_o (k := 12) (by omega), adu_s]) n6 l9 (fun kd i hl => by
    rcases hl with ((hl | ⟨rfl, rfl⟩) | ⟨rfl, rfl⟩) | ⟨rfl, rfl⟩
    · exact hf kd i 9 hl (by decide) (by decide)
    · unfold rfs; omega
    · unfold rfs; omega
    · unfold rfs; omega)
end GRW
