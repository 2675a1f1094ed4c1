/-! GROWING LAYOUTS: letters, desks, prescriptions, the row, the grid, the model. -/
section GRW
variable {ar : Nat → ClassId} {ad : Nat → Nat → Nat} {rg : Nat → Bool} {pl : Nat → Nat} {V M : fV} {σ σ1 : mp_M} {L : Nat → Nat → Prop}
def NOT (L : Nat → Nat → Prop) (ad : Nat → Nat → Nat) (q : Nat) : Prop := ∀ kd i, L kd i → ad kd i ≠ q
theorem NOT_new {q : Nat} (h : LayP L ar ad rg pl V M σ) (hq : σ q = none) : NOT L ad q := LayP_ne h hq
theorem NOT_adu {k0 i0 q q' : Nat} (h : NOT L ad q') (hL : ¬ L k0 i0) (hne : q ≠ q') : NOT (fun kd i => L kd i ∨ (kd = k0 ∧ i = i0)) (adu ad k0 i0 q) q' := by
  intro kd i hl
  rcases hl with hl | ⟨rfl, rfl⟩
  · rw [adu_o (fun z => hL (by rw [← z.1, ← z.2]; exact hl))]; exact h kd i hl
  · rw [adu_s]; exact hne
/-- one more cell: the store may have changed elsewhere -/
theorem LayP_one {k0 i0 q : Nat} (h : LayP L ar ad rg pl V M σ) (h1 : σ q = some (fc ar (adu ad k0 i0 q) rg pl V M k0 i0)) (hne : NOT L ad q) (hL : ¬ L k0 i0) (hf : ∀ kd i, L kd i → ¬ rfs kd i k0 i0) : LayP (fun kd i => L kd i ∨ (kd = k0 ∧ i = i0)) ar (adu ad k0 i0 q) rg pl V M σ := LayP_ext h h1 hne hL hf
theorem LayP_frm {a : Nat} (h : LayP L ar ad rg pl V M σ) (hne : NOT L ad a) (o : FRM a σ σ1) : LayP L ar ad rg pl V M σ1 := LayP_keep h (fun kd i hl => o _ (hne kd i hl) (sn_ (h.1 kd i hl)))
def ad3 (ad : Nat → Nat → Nat) (t a b1 b2 : Nat) : Nat → Nat → Nat := adu (adu (adu ad 6 t b2) 5 t b1) 4 t a
def L3 (L : Nat → Nat → Prop) (t : Nat) : Nat → Nat → Prop := fun kd i => ((L kd i ∨ (kd = 6 ∧ i = t)) ∨ (kd = 5 ∧ i = t)) ∨ (kd = 4 ∧ i = t)
/-- a letter's three cells -/
theorem LayP_letter {t a b1 b2 : Nat} (h : LayP L ar ad rg pl V M σ) (ha : NOT L ad a) (hb1 : NOT L ad b1) (hb2 : NOT L ad b2) (ne1 : b1 ≠ a) (ne2 : b2 ≠ a) (ne3 : b2 ≠ b1) (hL : ∀ kd, 4 ≤ kd → kd ≤ 6 → ¬ L kd t) (hf : ∀ kd i k0, L kd i → 4 ≤ k0 → k0 ≤ 6 → ¬ rfs kd i k0 t)
    (c1 : σ a = some (.inr (2, [.ref b1, .int (V 44 t), .int (V 45 t), .int (V 46 t), .int (V 47 t), .int (V 48 t), .int (V 49 t), .int (V 50 t), .int (V 51 t)]))) (c2 : σ b1 = some (.inr (4, [.ref b2, .int (V 52 t)]))) (c3 : σ b2 = some (.inl (ar 0, 12, .inl (V (1000 + t))))) :
    LayP (L3 L t) ar (ad3 ad t a b1 b2) rg pl V M σ := by
  have s1 := LayP_one (k0 := 6) (i0 := t) (q := b2) h c3 hb2 (hL 6 (by decide) (by decide)) (fun kd i hl => hf kd i 6 hl (by decide) (by decide))
  have n1 := NOT_adu (k0 := 6) (i0 := t) (q := b2) hb1 (hL 6 (by decide) (by decide)) ne3
  have n2 := NOT_adu (k0 := 6) (i0 := t) (q := b2) ha (hL 6 (by decide) (by decide)) ne2
  have l5 : ¬ (L 5 t ∨ ((5 : Nat) = 6 ∧ t = t)) := fun z => by
    rcases z with z | z
    · exact hL 5 (by decide) (by decide) z
    · exact absurd z.1 (by decide)
  have s2 := LayP_one (k0 := 5) (i0 := t) (q := b1) s1 (by
    rw [c2]
    show _ = some (.inr (4, [.ref (adu (adu ad 6 t b2) 5 t b1 6 t), .int (V 52 t)]) : va_E)
    rw [adu_o (by omega), adu_s]) n1 l5 (fun kd i hl => by
    rcases hl with hl | ⟨rfl, rfl⟩
    · exact hf kd i 5 hl (by decide) (by decide)
    · unfold rfs; omega)
  have n3 := NOT_adu (k0 := 5) (i0 := t) (q := b1) n2 l5 ne1
  have l4 : ¬ ((L 4 t ∨ ((4 : Nat) = 6 ∧ t = t)) ∨ ((4 : Nat) = 5 ∧ t = t)) := fun z => by
    rcases z with (z | z) | z
    · exact hL 4 (by decide) (by decide) z
    · exact absurd z.1 (by decide)
    · exact absurd z.1 (by decide)
  exact LayP_one (k0 := 4) (i0 := t) (q := a) s2 (by
    rw [c1]
    show _ = some (.inr (2, [.ref (adu (adu (adu ad 6 t b2) 5 t b1) 4 t a 5 t), .int (V 44 t), .int (V 45 t), .int (V 46 t), .int (V 47 t), .int (V 48 t), .int (V 49 t), .int (V 50 t), .int (V 51 t)]) : va_E)
    rw [adu_o (by omega), adu_s]) n3 l4 (fun kd i hl => by
    rcases hl with (hl | ⟨rfl, rfl⟩) | ⟨rfl, rfl⟩
    · exact hf kd i 4 hl (by decide) (by decide)
    · unfold rfs; omega
    · unfold rfs; omega)
def ad4 (ad : Nat → Nat → Nat) (t a b1 b2 b3 : Nat) : Nat → Nat → Nat := adu (adu (adu (adu ad 11 t b2) 10 t b1) 12 t b3) 9 t a
def L4 (L : Nat → Nat → Prop) (t : Nat) : Nat → Nat → Prop := fun kd i => (((L kd i ∨ (kd = 11 ∧ i = t)) ∨ (kd = 10 ∧ i = t)) ∨ (kd = 12 ∧ i = t)) ∨ (kd = 9 ∧ i = t)
/-- a desk's four cells -/
theorem LayP_desk {t a b1 b2 b3 : Nat} (h : LayP L ar ad rg pl V M σ) (ha : NOT L ad a) (hb1 : NOT L ad b1) (hb2 : NOT L ad b2) (hb3 : NOT L ad b3) (ne1 : b1 ≠ a) (ne2 : b2 ≠ a) (ne3 : b2 ≠ b1) (ne4 : b1 ≠ b3) (ne5 : b2 ≠ b3) (ne6 : b3 ≠ a) (hL : ∀ kd, 9 ≤ kd → kd ≤ 12 → ¬ L kd t) (hf : ∀ kd i k0, L kd i → 9 ≤ k0 → k0 ≤ 12 → ¬ rfs kd i k0 t)
    (c1 : σ a = some (.inr (1, [.int (V 63 t), .int (V 64 t), .ref b1, .ref b3, .int (V 30 t), .int (V 31 t), .int (V 32 t), .int (V 33 t)]))) (c2 : σ b1 = some (.inr (4, [.ref b2, .int (V 34 t)]))) (c3 : σ b2 = some (.inl (ar 0, 12, .inl (V (100 + t)))))
    (c4 : σ b3 = some (.inr (0, [.int (V 36 t), .int (V 37 t), .int (V 38 t), .int (V 39 t), .int (V 40 t), .int (V 41 t), .int (V 42 t), .int (V 43 t)]))) :
    LayP (L4 L t) ar (ad4 ad t a b1 b2 b3) rg pl V M σ := by
  have s1 := LayP_one (k0 := 11) (i0 := t) (q := b2) h c3 hb2 (hL 11 (by decide) (by decide)) (fun kd i hl => hf kd i 11 hl (by decide) (by decide))
  have n1 := NOT_adu (k0 := 11) (i0 := t) (q := b2) hb1 (hL 11 (by decide) (by decide)) ne3
  have n2 := NOT_adu (k0 := 11) (i0 := t) (q := b2) ha (hL 11 (by decide) (by decide)) ne2
  have n3 := NOT_adu (k0 := 11) (i0 := t) (q := b2) hb3 (hL 11 (by decide) (by decide)) ne5
  have l10 : ¬ (L 10 t ∨ ((10 : Nat) = 11 ∧ t = t)) := fun z => by
    rcases z with z | z
    · exact hL 10 (by decide) (by decide) z
    · exact absurd z.1 (by decide)
  have s2 := LayP_one (k0 := 10) (i0 := t) (q := b1) s1 (by
    rw [c2]
    show _ = some (.inr (4, [.ref (adu (adu ad 11 t b2) 10 t b1 11 t), .int (V 34 t)]) : va_E)
    rw [adu_o (by omega), adu_s]) n1 l10 (fun kd i hl => by
    rcases hl with hl | ⟨rfl, rfl⟩
    · exact hf kd i 10 hl (by decide) (by decide)
    · unfold rfs; omega)
  have n4 := NOT_adu (k0 := 10) (i0 := t) (q := b1) n2 l10 ne1
  have n5 := NOT_adu (k0 := 10) (i0 := t) (q := b1) n3 l10 ne4
  have l12 : ¬ ((L 12 t ∨ ((12 : Nat) = 11 ∧ t = t)) ∨ ((12 : Nat) = 10 ∧ t = t)) := fun z => by
    rcases z with (z | z) | z
    · exact hL 12 (by decide) (by decide) z
    · exact absurd z.1 (by decide)
    · exact absurd z.1 (by decide)
  have s3 := LayP_one (k0 := 12) (i0 := t) (q := b3) s2 c4 n5 l12 (fun kd i hl => by
    rcases hl with (hl | ⟨rfl, rfl⟩) | ⟨rfl, rfl⟩
    · exact hf kd i 12 hl (by decide) (by decide)
    · unfold rfs; omega
    · unfold rfs; omega)
  have n6 := NOT_adu (k0 := 12) (i0 := t) (q := b3) n4 l12 ne6
  have l9 : ¬ (((L 9 t ∨ ((9 : Nat) = 11 ∧ t = t)) ∨ ((9 : Nat) = 10 ∧ t = t)) ∨ ((9 : Nat) = 12 ∧ t = t)) := fun z => by
    rcases z with ((z | z) | z) | z
    · exact hL 9 (by decide) (by decide) z
    · exact absurd z.1 (by decide)
    · exact absurd z.1 (by decide)
    · exact absurd z.1 (by decide)
  exact LayP_one (k0 := 9) (i0 := t) (q := a) s3 (by
    rw [c1]
    show _ = some (.inr (1, [.int (V 63 t), .int (V 64 t), .ref (adu (adu (adu (adu ad 11 t b2) 10 t b1) 12 t b3) 9 t a 10 t), .ref (adu (adu (adu (adu ad 11 t b2) 10 t b1) 12 t b3) 9 t a 12 t), .int (V 30 t), .int (V 31 t), .int (V 32 t), .int (V 33 t)]) : va_E)
    rw [adu_o (k := 10) (by omega), adu_o (k := 10) (by omega), adu_s, adu_o (k := 12) (by omega), adu_s]) n6 l9 (fun kd i hl => by
    rcases hl with ((hl | ⟨rfl, rfl⟩) | ⟨rfl, rfl⟩) | ⟨rfl, rfl⟩
    · exact hf kd i 9 hl (by decide) (by decide)
    · unfold rfs; omega
    · unfold rfs; omega
    · unfold rfs; omega)
def DV (V : fV) (d : Nat) (k j : Int32) : Prop := V 63 d = k ∧ V 64 d = j ∧ V 30 d = nI 0 ∧ V 31 d = nI 0 ∧ V 32 d = -1 ∧ V 33 d = nI 0 ∧ V 34 d = nI 0 ∧ V (100 + d) = (fun _ => 0) ∧ V 36 d = nI 0 ∧ V 37 d = -1 ∧ V 38 d = nI 0 ∧ V 39 d = nI 0 ∧ V 40 d = nI 0 ∧ V 41 d = nI 0 ∧ V 42 d = nI 0 ∧ V 43 d = -1
/-- a new desk joins the layout -/
theorem LayP_newdesk {σ2 σ3 : mp_M} {t q9 b1 b2 b3 : Nat} {k j : Int32} {e9 : va_E} (h : LayP L ar ad rg pl V M σ1) (h9 : σ1 q9 = none) (f9 : σ2 q9 = some e9) (o2 : ∀ y, y ≠ q9 → σ2 y = σ1 y) (hb1 : σ2 b1 = none) (hb2 : σ2 b2 = none) (hb3 : σ2 b3 = none) (ne3 : b2 ≠ b1) (ne4 : b1 ≠ b3) (ne5 : b2 ≠ b3)
    (c1 : σ3 q9 = some (.inr (1, [.int k, .int j, .ref b1, .ref b3, .int (nI 0), .int (nI 0), .int (-1), .int (nI 0)]))) (c2 : σ3 b1 = some (.inr (4, [.ref b2, .int (nI 0)]))) (c3 : σ3 b2 = some (.inl (ar 0, 12, .inl (fun _ => 0)))) (c4 : σ3 b3 = some (.inr (0, [.int (nI 0), .int (-1), .int (nI 0), .int (nI 0), .int (nI 0), .int (nI 0), .int (nI 0), .int (-1)])))
    (o3 : FRM q9 σ2 σ3) (hV : DV V t k j) (hL : ∀ kd, 9 ≤ kd → kd ≤ 12 → ¬ L kd t) (hf : ∀ kd i k0, L kd i → 9 ≤ k0 → k0 ≤ 12 → ¬ rfs kd i k0 t) :
    LayP (L4 L t) ar (ad4 ad t q9 b1 b2 b3) rg pl V M σ3 ∧ (∀ q e, σ1 q = some e → NOT L ad q → NOT (L4 L t) (ad4 ad t q9 b1 b2 b3) q ∧ σ3 q = some e) ∧ ∀ kd i, L kd i → ad4 ad t q9 b1 b2 b3 kd i = ad kd i := by
  have n9 := NOT_new h h9
  have h2 : LayP L ar ad rg pl V M σ2 := LayP_keep h (fun kd i hl => o2 _ (n9 kd i hl))
  have h3 := LayP_frm h2 n9 o3
  obtain ⟨v63, v64, v30, v31, v32, v33, v34, vp, v36, v37, v38, v39, v40, v41, v42, v43⟩ := hV
  have ag : ∀ kd i, L kd i → ad4 ad t q9 b1 b2 b3 kd i = ad kd i := fun kd i hl => by
    unfold ad4
    rw [adu_o (fun z => hL 9 (by decide) (by decide) (by rw [← z.1, ← z.2]; exact hl)), adu_o (fun z => hL 12 (by decide) (by decide) (by rw [← z.1, ← z.2]; exact hl)), adu_o (fun z => hL 10 (by decide) (by decide) (by rw [← z.1, ← z.2]; exact hl)), adu_o (fun z => hL 11 (by decide) (by decide) (by rw [← z.1, ← z.2]; exact hl))]
  refine ⟨LayP_desk h3 n9 (NOT_new h2 hb1) (NOT_new h2 hb2) (NOT_new h2 hb3) (Ne.symm (fr_ne f9 hb1)) (Ne.symm (fr_ne f9 hb2)) ne3 ne4 ne5 (Ne.symm (fr_ne f9 hb3)) hL hf ?_ ?_ ?_ ?_, fun q e hq hn => ?_, ag⟩
  · rw [v63, v64, v30, v31, v32, v33]; exact c1
  · rw [v34]; exact c2
  · rw [vp]; exact c3
  · rw [v36, v37, v38, v39, v40, v41, v42, v43]; exact c4
  · have q9' : q ≠ q9 := fr_ne hq h9
    have g2 : σ2 q = some e := (o2 q q9').trans hq
    have z1 := fr_ne g2 hb1
    have z2 := fr_ne g2 hb2
    have z3 := fr_ne g2 hb3
    refine ⟨fun kd i hl => ?_, FRM_f o3 g2 q9'⟩
    rcases hl with (((hl | ⟨rfl, rfl⟩) | ⟨rfl, rfl⟩) | ⟨rfl, rfl⟩) | ⟨rfl, rfl⟩
    · rw [ag kd i hl]; exact hn kd i hl
    · unfold ad4
      rw [adu_o (by omega), adu_o (by omega), adu_o (by omega), adu_s]; exact Ne.symm z2
    · unfold ad4
      rw [adu_o (by omega), adu_o (by omega), adu_s]; exact Ne.symm z1
    · unfold ad4
      rw [adu_o (by omega), adu_s]; exact Ne.symm z3
    · unfold ad4
      rw [adu_s]; exact Ne.symm q9'
def TV (V : fV) (t : Nat) : Prop := V 44 t = 0 ∧ V 45 t = 0 ∧ V 46 t = 0 ∧ V 47 t = 0 ∧ V 48 t = 0 ∧ V 49 t = 0 ∧ V 50 t = 0 ∧ V 51 t = -1 ∧ V 52 t = nI 0 ∧ V (1000 + t) = fun _ => 0
/-- a new letter joins the layout -/
theorem LayP_newletter {σ2 σ3 : mp_M} {t q9 b1 b2 : Nat} {e9 : va_E} (h : LayP L ar ad rg pl V M σ1) (h9 : σ1 q9 = none) (f9 : σ2 q9 = some e9) (o2 : ∀ y, y ≠ q9 → σ2 y = σ1 y) (hb1 : σ2 b1 = none) (hb2 : σ2 b2 = none) (ne3 : b2 ≠ b1)
    (c1 : σ3 q9 = some (.inr (2, [.ref b1, .int 0, .int 0, .int 0, .int 0, .int 0, .int 0, .int 0, .int (-1)]))) (c2 : σ3 b1 = some (.inr (4, [.ref b2, .int (nI 0)]))) (c3 : σ3 b2 = some (.inl (ar 0, 12, .inl (fun _ => 0))))
    (o3 : FRM q9 σ2 σ3) (hV : TV V t) (hL : ∀ kd, 4 ≤ kd → kd ≤ 6 → ¬ L kd t) (hf : ∀ kd i k0, L kd i → 4 ≤ k0 → k0 ≤ 6 → ¬ rfs kd i k0 t) :
    LayP (L3 L t) ar (ad3 ad t q9 b1 b2) rg pl V M σ3 ∧ (∀ q e, σ1 q = some e → NOT L ad q → NOT (L3 L t) (ad3 ad t q9 b1 b2) q ∧ σ3 q = some e) ∧ ∀ kd i, L kd i → ad3 ad t q9 b1 b2 kd i = ad kd i := by
  have n9 := NOT_new h h9
  have h2 : LayP L ar ad rg pl V M σ2 := LayP_keep h (fun kd i hl => o2 _ (n9 kd i hl))
  have h3 := LayP_frm h2 n9 o3
  obtain ⟨v44, v45, v46, v47, v48, v49, v50, v51, v52, vp⟩ := hV
  have ag : ∀ kd i, L kd i → ad3 ad t q9 b1 b2 kd i = ad kd i := fun kd i hl => by
    unfold ad3
    rw [adu_o (fun z => hL 4 (by decide) (by decide) (by rw [← z.1, ← z.2]; exact hl)), adu_o (fun z => hL 5 (by decide) (by decide) (by rw [← z.1, ← z.2]; exact hl)), adu_o (fun z => hL 6 (by decide) (by decide) (by rw [← z.1, ← z.2]; exact hl))]
  refine ⟨LayP_letter h3 n9 (NOT_new h2 hb1) (NOT_new h2 hb2) (Ne.symm (fr_ne f9 hb1)) (Ne.symm (fr_ne f9 hb2)) ne3 hL hf ?_ ?_ ?_, fun q e hq hn => ?_, ag⟩
  · rw [v44, v45, v46, v47, v48, v49, v50, v51]; exact c1
  · rw [v52]; exact c2
  · rw [vp]; exact c3
  · have q9' : q ≠ q9 := fr_ne hq h9
    have g2 : σ2 q = some e := (o2 q q9').trans hq
    have z1 := fr_ne g2 hb1
    have z2 := fr_ne g2 hb2
    refine ⟨fun kd i hl => ?_, FRM_f o3 g2 q9'⟩
    rcases hl with ((hl | ⟨rfl, rfl⟩) | ⟨rfl, rfl⟩) | ⟨rfl, rfl⟩
    · rw [ag kd i hl]; exact hn kd i hl
    · unfold ad3
      rw [adu_o (by omega), adu_o (by omega), adu_s]; exact Ne.symm z2
    · unfold ad3
      rw [adu_o (by omega), adu_s]; exact Ne.symm z1
    · unfold ad3
      rw [adu_s]; exact Ne.symm q9'
/-- desks of a prescription, so far -/
def LD (L : Nat → Nat → Prop) (b0 j : Nat) : Nat → Nat → Prop := fun kd i => L kd i ∨ (9 ≤ kd ∧ kd ≤ 12 ∧ ∃ t, t < j ∧ i = 20 * t + b0)
theorem LD_0 {b0 kd i : Nat} (h : LD L b0 0 kd i) : L kd i := by
  rcases h with h | ⟨-, -, t, ht, -⟩
  · exact h
  · exact absurd ht (Nat.not_lt_zero _)
theorem LD_sub {b0 j kd i : Nat} (h : LD L b0 (j + 1) kd i) : L4 (LD L b0 j) (20 * j + b0) kd i := by
  rcases h with h | ⟨h1, h2, t, ht, hi⟩
  · exact Or.inl (Or.inl (Or.inl (Or.inl (Or.inl h))))
  · by_cases htj : t = j
    · subst htj
      have : kd = 9 ∨ kd = 10 ∨ kd = 11 ∨ kd = 12 := by omega
      rcases this with rfl | rfl | rfl | rfl
      · exact Or.inr ⟨rfl, hi⟩
      · exact Or.inl (Or.inl (Or.inr ⟨rfl, hi⟩))
      · exact Or.inl (Or.inl (Or.inl (Or.inr ⟨rfl, hi⟩)))
      · exact Or.inl (Or.inr ⟨rfl, hi⟩)
    · exact Or.inl (Or.inl (Or.inl (Or.inl (Or.inr ⟨h1, h2, t, by omega, hi⟩))))
theorem LD_no {b0 j : Nat} (hL : ∀ kd, 9 ≤ kd → kd ≤ 12 → ¬ L kd (20 * j + b0)) : ∀ kd, 9 ≤ kd → kd ≤ 12 → ¬ LD L b0 j kd (20 * j + b0) := by
  intro kd h1 h2 h
  rcases h with h | ⟨-, -, t, ht, hi⟩
  · exact hL kd h1 h2 h
  · omega
theorem LD_rf {b0 j : Nat} (hf : ∀ kd i k0, L kd i → 9 ≤ k0 → k0 ≤ 12 → ¬ rfs kd i k0 (20 * j + b0)) : ∀ kd i k0, LD L b0 j kd i → 9 ≤ k0 → k0 ≤ 12 → ¬ rfs kd i k0 (20 * j + b0) := by
  intro kd i k0 h h1 h2
  rcases h with h | ⟨h3, h4, t, ht, hi⟩
  · exact hf kd i k0 h h1 h2
  · unfold rfs
    omega
/-- letters of the row, so far -/
def LL (L : Nat → Nat → Prop) (j : Nat) : Nat → Nat → Prop := fun kd i => L kd i ∨ (4 ≤ kd ∧ kd ≤ 6 ∧ 1 ≤ i ∧ i ≤ j)
theorem LL_0 {kd i : Nat} (h : LL L 0 kd i) : L kd i := by
  rcases h with h | h
  · exact h
  · omega
theorem LL_sub {j kd i : Nat} (h : LL L (j + 1) kd i) : L3 (LL L j) (j + 1) kd i := by
  rcases h with h | ⟨h1, h2, h3, h4⟩
  · exact Or.inl (Or.inl (Or.inl (Or.inl h)))
  · by_cases htj : i = j + 1
    · subst htj
      have : kd = 4 ∨ kd = 5 ∨ kd = 6 := by omega
      rcases this with rfl | rfl | rfl
      · exact Or.inr ⟨rfl, rfl⟩
      · exact Or.inl (Or.inr ⟨rfl, rfl⟩)
      · exact Or.inl (Or.inl (Or.inr ⟨rfl, rfl⟩))
    · exact Or.inl (Or.inl (Or.inl (Or.inr ⟨h1, h2, h3, by omega⟩)))
theorem LL_no {j t : Nat} (ht : t = 0 ∨ j < t) (hL : ∀ kd i, 4 ≤ kd → kd ≤ 6 → ¬ L kd i) : ∀ kd, 4 ≤ kd → kd ≤ 6 → ¬ LL L j kd t := by
  intro kd h1 h2 h
  rcases h with h | h
  · exact hL kd t h1 h2 h
  · omega
theorem LL_rf {j t : Nat} (ht : t = 0 ∨ j < t) (hf : ∀ kd i k0 t, L kd i → 4 ≤ k0 → k0 ≤ 6 → ¬ rfs kd i k0 t) : ∀ kd i k0, LL L j kd i → 4 ≤ k0 → k0 ≤ 6 → ¬ rfs kd i k0 t := by
  intro kd i k0 h h1 h2
  rcases h with h | h
  · exact hf kd i k0 t h h1 h2
  · unfold rfs
    omega
/-- arrays of the model, so far -/
def LM (L : Nat → Nat → Prop) (j : Nat) : Nat → Nat → Prop := fun kd i => L kd i ∨ (kd = 14 ∧ i < j ∧ i ≠ 22)
theorem LM_0 {kd i : Nat} (h : LM L 0 kd i) : L kd i := by
  rcases h with h | h
  · exact h
  · omega
theorem LM_sub {j kd i : Nat} (h : LM L (j + 1) kd i) : LM L j kd i ∨ (kd = 14 ∧ i = j) := by
  rcases h with h | h
  · exact Or.inl (Or.inl h)
  · by_cases h1 : i = j
    · exact Or.inr ⟨h.1, h1⟩
    · exact Or.inl (Or.inr ⟨h.1, by omega, h.2.2⟩)
theorem LM_skip {kd i : Nat} (h : LM L 23 kd i) : LM L 22 kd i := by
  rcases h with h | h
  · exact Or.inl h
  · exact Or.inr ⟨h.1, by omega, h.2.2⟩
theorem LM_no {j : Nat} (hL : ∀ kd i, 13 ≤ kd → kd ≤ 14 → ¬ L kd i) : ¬ LM L j 14 j := by
  intro h
  rcases h with h | h
  · exact hL 14 j (by decide) (by decide) h
  · omega
theorem LM_rf {j : Nat} (hL : ∀ kd i, 13 ≤ kd → kd ≤ 14 → ¬ L kd i) : ∀ kd i, LM L j kd i → ¬ rfs kd i 14 j := by
  intro kd i h z
  unfold rfs at z
  have h1 : kd = 13 := by omega
  subst h1
  rcases h with h | h
  · exact hL 13 i (by decide) (by decide) h
  · omega
theorem agr_adu {ad1 : Nat → Nat → Nat} {k0 i0 q : Nat} (A : ∀ kd i, L kd i → ad1 kd i = ad kd i) (h : ¬ L k0 i0) : ∀ kd i, L kd i → adu ad1 k0 i0 q kd i = ad kd i := fun kd i hl => (adu_o (fun z => h (by rw [← z.1, ← z.2]; exact hl))).trans (A kd i hl)
/-- the prescription's registering leaves other cells as they are -/
theorem fc_rgV {b0 kd i : Nat} {c1 c2 : Int32} (hb : b0 < 20) (hr : rg b0 = false) (hl : Lv rg kd i) : fc ar ad rg pl (rgV V b0 c1 c2) M kd i = fc ar ad rg pl V M kd i := by
  have ne : ∀ q, rg q = true → q ≠ b0 := fun q hq z => by rw [z, hr] at hq; cases hq
  rcases hl with ⟨h1, rfl⟩ | ⟨h1, h2, h3⟩ | ⟨h1, h2, h3⟩ | ⟨h1, h2, h3⟩ | ⟨rfl, rfl⟩ | ⟨rfl, h1⟩ | ⟨rfl, rfl⟩
  · have : kd = 0 ∨ kd = 1 ∨ kd = 2 ∨ kd = 3 := by omega
    rcases this with rfl | rfl | rfl | rfl
    · show (.inr (6, [.ref (ad 1 0), .ref (ad 9 500), .ref (ad 2 0), .int (rgV V b0 c1 c2 59 0)]) : va_E) = .inr (6, [.ref (ad 1 0), .ref (ad 9 500), .ref (ad 2 0), .int (V 59 0)])
      rw [rgV_o (by omega) (by omega) (by omega)]
    · rfl
    · show (.inr (3, [.ref (ad 3 0), .ref (ad 4 101), .ref (ad 4 (pl 0)), .int (rgV V b0 c1 c2 54 0), .int (rgV V b0 c1 c2 55 0), .int (rgV V b0 c1 c2 56 0), .int (rgV V b0 c1 c2 57 0), .int (rgV V b0 c1 c2 58 0)]) : va_E) = .inr (3, [.ref (ad 3 0), .ref (ad 4 101), .ref (ad 4 (pl 0)), .int (V 54 0), .int (V 55 0), .int (V 56 0), .int (V 57 0), .int (V 58 0)])
      rw [rgV_o (k := 54) (by omega) (by omega) (by omega), rgV_o (k := 55) (by omega) (by omega) (by omega), rgV_o (k := 56) (by omega) (by omega) (by omega), rgV_o (k := 57) (by omega) (by omega) (by omega), rgV_o (k := 58) (by omega) (by omega) (by omega)]
    · rfl
  · have : kd = 4 ∨ kd = 5 ∨ kd = 6 := by omega
    rcases this with rfl | rfl | rfl
    · show (.inr (2, [.ref (ad 5 i), .int (rgV V b0 c1 c2 44 i), .int (rgV V b0 c1 c2 45 i), .int (rgV V b0 c1 c2 46 i), .int (rgV V b0 c1 c2 47 i), .int (rgV V b0 c1 c2 48 i), .int (rgV V b0 c1 c2 49 i), .int (rgV V b0 c1 c2 50 i), .int (rgV V b0 c1 c2 51 i)]) : va_E) = .inr (2, [.ref (ad 5 i), .int (V 44 i), .int (V 45 i), .int (V 46 i), .int (V 47 i), .int (V 48 i), .int (V 49 i), .int (V 50 i), .int (V 51 i)])
      rw [rgV_o (k := 44) (by omega) (by omega) (by omega), rgV_o (k := 45) (by omega) (by omega) (by omega), rgV_o (k := 46) (by omega) (by omega) (by omega), rgV_o (k := 47) (by omega) (by omega) (by omega), rgV_o (k := 48) (by omega) (by omega) (by omega), rgV_o (k := 49) (by omega) (by omega) (by omega), rgV_o (k := 50) (by omega) (by omega) (by omega), rgV_o (k := 51) (by omega) (by omega) (by omega)]
    · show (.inr (4, [.ref (ad 6 i), .int (rgV V b0 c1 c2 52 i)]) : va_E) = .inr (4, [.ref (ad 6 i), .int (V 52 i)])
      rw [rgV_o (by omega) (by omega) (by omega)]
    · show (.inl (ar 0, 12, .inl (rgV V b0 c1 c2 (1000 + i))) : va_E) = .inl (ar 0, 12, .inl (V (1000 + i)))
      rw [show rgV V b0 c1 c2 (1000 + i) = V (1000 + i) from funext fun j => rgV_o (by omega) (by omega) (by omega)]
  · have := ne i h3
    rcases h1 with rfl | rfl
    · show (.inr (5, [.int (rgV V b0 c1 c2 60 i), .int (rgV V b0 c1 c2 61 i), .ref (ad 8 i)]) : va_E) = .inr (5, [.int (V 60 i), .int (V 61 i), .ref (ad 8 i)])
      rw [rgV_o (k := 60) (by omega) (by omega) (by omega), rgV_o (k := 61) (by omega) (by omega) (by omega)]
    · rfl
  · have hi : i = 500 ∨ (i < 500 ∧ i % 20 ≠ b0) := by
      rcases h3 with h3 | ⟨h3, h4⟩
      · exact Or.inl h3
      · exact Or.inr ⟨h3, ne _ h4⟩
    have : kd = 9 ∨ kd = 10 ∨ kd = 11 ∨ kd = 12 := by omega
    rcases this with rfl | rfl | rfl | rfl
    · show (.inr (1, [.int (rgV V b0 c1 c2 63 i), .int (rgV V b0 c1 c2 64 i), .ref (ad 10 i), .ref (ad 12 i), .int (rgV V b0 c1 c2 30 i), .int (rgV V b0 c1 c2 31 i), .int (rgV V b0 c1 c2 32 i), .int (rgV V b0 c1 c2 33 i)]) : va_E) = .inr (1, [.int (V 63 i), .int (V 64 i), .ref (ad 10 i), .ref (ad 12 i), .int (V 30 i), .int (V 31 i), .int (V 32 i), .int (V 33 i)])
      rw [rgV_o (k := 63) (by omega) (by omega) (by omega), rgV_o (k := 64) (by omega) (by omega) (by omega), rgV_o (k := 30) (by omega) (by omega) (by omega), rgV_o (k := 31) (by omega) (by omega) (by omega), rgV_o (k := 32) (by omega) (by omega) (by omega), rgV_o (k := 33) (by omega) (by omega) (by omega)]
    · show (.inr (4, [.ref (ad 11 i), .int (rgV V b0 c1 c2 34 i)]) : va_E) = .inr (4, [.ref (ad 11 i), .int (V 34 i)])
      rw [rgV_o (by omega) (by omega) (by omega)]
    · show (.inl (ar 0, 12, .inl (rgV V b0 c1 c2 (100 + i))) : va_E) = .inl (ar 0, 12, .inl (V (100 + i)))
      rw [show rgV V b0 c1 c2 (100 + i) = V (100 + i) from funext fun j => rgV_o (by omega) (by omega) (by omega)]
    · show (.inr (0, [.int (rgV V b0 c1 c2 36 i), .int (rgV V b0 c1 c2 37 i), .int (rgV V b0 c1 c2 38 i), .int (rgV V b0 c1 c2 39 i), .int (rgV V b0 c1 c2 40 i), .int (rgV V b0 c1 c2 41 i), .int (rgV V b0 c1 c2 42 i), .int (rgV V b0 c1 c2 43 i)]) : va_E) = .inr (0, [.int (V 36 i), .int (V 37 i), .int (V 38 i), .int (V 39 i), .int (V 40 i), .int (V 41 i), .int (V 42 i), .int (V 43 i)])
      rw [rgV_o (k := 36) (by omega) (by omega) (by omega), rgV_o (k := 37) (by omega) (by omega) (by omega), rgV_o (k := 38) (by omega) (by omega) (by omega), rgV_o (k := 39) (by omega) (by omega) (by omega), rgV_o (k := 40) (by omega) (by omega) (by omega), rgV_o (k := 41) (by omega) (by omega) (by omega), rgV_o (k := 42) (by omega) (by omega) (by omega), rgV_o (k := 43) (by omega) (by omega) (by omega)]
  · rfl
  · rfl
  · show (.inl (ar 1, 1, .inr (.inl (fun j => (rgV V b0 c1 c2 62 j).toInt64))) : va_E) = .inl (ar 1, 1, .inr (.inl (fun j => (V 62 j).toInt64)))
    rw [show (fun j => (rgV V b0 c1 c2 62 j).toInt64) = fun j => (V 62 j).toInt64 from funext fun j => by rw [rgV_o (by omega) (by omega) (by omega)]]
theorem fc_rg {rg' : Nat → Bool} {kd i : Nat} (h : kd ≠ 1) : fc ar ad rg pl V M kd i = fc ar ad rg' pl V M kd i := by
  unfold fc
  split <;> first | rfl | exact absurd rfl h
theorem Lay_P (h : Lay ar ad rg pl V M σ) : LayP (Lv rg) ar ad rg pl V M σ := h
theorem Lay_rgV {b0 : Nat} {c1 c2 : Int32} (hb : b0 < 20) (hr : rg b0 = false) (h : Lay ar ad rg pl V M σ) : LayP (Lv rg) ar ad rg pl (rgV V b0 c1 c2) M σ :=
  ⟨fun kd i hl => by rw [fc_rgV hb hr hl]; exact h.1 kd i hl, h.2⟩
theorem DV_rgV {b0 t : Nat} {c1 c2 : Int32} (hb : b0 < 20) (ht : t < 25) : DV (rgV V b0 c1 c2) (20 * t + b0) (nI t) (nI b0) := by
  have hd : ∀ k, (30 ≤ k ∧ k ≤ 43) ∨ k = 63 ∨ k = 64 → rgV V b0 c1 c2 k (20 * t + b0) = ini b0 k (20 * t + b0) := fun k hk => rgV_d hk (by omega) (by omega)
  have e1 : (20 * t + b0) / 20 = t := by omega
  refine ⟨(hd 63 (by decide)).trans ?_, hd 64 (by decide), hd 30 (by decide), hd 31 (by decide), hd 32 (by decide), hd 33 (by decide), hd 34 (by decide), funext fun j => rgV_p (by omega) (by omega), hd 36 (by decide), hd 37 (by decide), hd 38 (by decide), hd 39 (by decide), hd 40 (by decide), hd 41 (by decide), hd 42 (by decide), hd 43 (by decide)⟩
  unfold ini
  rw [if_pos rfl, e1]
theorem reg_live {b0 kd i : Nat} (hl : Lv (rgu rg b0) kd i) (h1 : kd ≠ 1) : ((LD (Lv rg) b0 25 kd i ∧ kd ≠ 1) ∨ (kd = 8 ∧ i = b0)) ∨ (kd = 7 ∧ i = b0) := by
  rcases hl with z | z | ⟨z1, z2, z3⟩ | ⟨z1, z2, z3⟩ | z | z | z
  · exact Or.inl (Or.inl ⟨Or.inl (Or.inl z), h1⟩)
  · exact Or.inl (Or.inl ⟨Or.inl (Or.inr (Or.inl z)), h1⟩)
  · by_cases hi : i = b0
    · rcases z1 with z1 | z1
      · exact Or.inr ⟨z1, hi⟩
      · exact Or.inl (Or.inr ⟨z1, hi⟩)
    · have e1 : rgu rg b0 i = rg i := if_neg hi
      rw [e1] at z3
      exact Or.inl (Or.inl ⟨Or.inl (LvP z1 ⟨z2, z3⟩), h1⟩)
  · rcases z3 with z3 | ⟨z3, z4⟩
    · exact Or.inl (Or.inl ⟨Or.inl (LvD z1 z2 (Or.inl z3)), h1⟩)
    · by_cases hi : i % 20 = b0
      · exact Or.inl (Or.inl ⟨Or.inr ⟨z1, z2, i / 20, by omega, by omega⟩, h1⟩)
      · have e1 : rgu rg b0 (i % 20) = rg (i % 20) := if_neg hi
        rw [e1] at z4
        exact Or.inl (Or.inl ⟨Or.inl (LvD z1 z2 (Or.inr ⟨z3, z4⟩)), h1⟩)
  · exact Or.inl (Or.inl ⟨Or.inl (Or.inr (Or.inr (Or.inr (Or.inr (Or.inl z))))), h1⟩)
  · exact Or.inl (Or.inl ⟨Or.inl (Or.inr (Or.inr (Or.inr (Or.inr (Or.inr (Or.inl z)))))), h1⟩)
  · exact Or.inl (Or.inl ⟨Or.inl (Or.inr (Or.inr (Or.inr (Or.inr (Or.inr (Or.inr z)))))), h1⟩)
theorem reg_ne {ad' : Nat → Nat → Nat} {σ3 : mp_M} {b0 q7 q8 kd i kd' i' : Nat} {V' : fV} (hP : LayP (LD (Lv rg) b0 25) ar ad' rg pl V' M σ3) (n7 : NOT (LD (Lv rg) b0 25) ad' q7) (n8 : NOT (LD (Lv rg) b0 25) ad' q8) (hl : Lv (rgu rg b0) kd i) (h1 : kd = 1) (hl' : Lv (rgu rg b0) kd' i') (h2 : kd' ≠ 1) : adu (adu ad' 8 b0 q8) 7 b0 q7 kd' i' ≠ adu (adu ad' 8 b0 q8) 7 b0 q7 kd i := by
  subst h1
  have hi : i = 0 := by
    rcases hl with z | z | z | z | z | z | z <;> omega
  subst hi
  have l1 : LD (Lv rg) b0 25 1 0 := Or.inl (LvG (by decide))
  rw [adu_o (k := 1) (by omega), adu_o (k := 1) (by omega)]
  by_cases k7 : kd' = 7 ∧ i' = b0
  · obtain ⟨rfl, rfl⟩ := k7
    rw [adu_s]; exact fun z => n7 1 0 l1 z.symm
  · rw [adu_o k7]
    by_cases k8 : kd' = 8 ∧ i' = b0
    · obtain ⟨rfl, rfl⟩ := k8
      rw [adu_s]; exact fun z => n8 1 0 l1 z.symm
    · rw [adu_o k8]
      rcases reg_live hl' h2 with (z | z) | z
      · exact fun q => h2 (hP.2 _ _ _ _ z.1 l1 q).1
      · exact absurd z k8
      · exact absurd z k7
/-- the registered prescription joins the layout -/
theorem Lay_reg {ad' : Nat → Nat → Nat} {σ3 σ4 : mp_M} {b0 q7 q8 : Nat} {c1 c2 : Int32} (hb : b0 < 20) (hr : rg b0 = false) (hP : LayP (LD (Lv rg) b0 25) ar ad' rg pl (rgV V b0 c1 c2) M σ3) (n7 : NOT (LD (Lv rg) b0 25) ad' q7) (n8 : NOT (LD (Lv rg) b0 25) ad' q8) (n78 : q8 ≠ q7)
    (c7 : σ3 q7 = some (.inr (5, [.int c1, .int c2, .ref q8]))) (c8 : σ3 q8 = some (.inl (ar 4, 25, .inr (.inr (.inr (.inr (fun q => some (ad' 9 (20 * q + b0)))))))))
    (c9 : σ4 (ad' 1 0) = some (.inl (ar 3, 20, .inr (.inr (.inr (.inr (va_up (fun q => if rg q = true then some (ad' 7 q) else none) b0 (some q7)))))))) (o4 : ∀ y, y ≠ ad' 1 0 → σ4 y = σ3 y) :
    Lay ar (adu (adu ad' 8 b0 q8) 7 b0 q7) (rgu rg b0) pl (rgV V b0 c1 c2) M σ4 := by
  have l1 : LD (Lv rg) b0 25 1 0 := Or.inl (LvG (by decide))
  have hQ : LayP (fun kd i => LD (Lv rg) b0 25 kd i ∧ kd ≠ 1) ar ad' (rgu rg b0) pl (rgV V b0 c1 c2) M σ4 :=
    ⟨fun kd i hl => by
      rw [← fc_rg (rg := rg) (rg' := rgu rg b0) hl.2, o4 _ (fun z => hl.2 (hP.2 _ _ _ _ hl.1 l1 z).1)]
      exact hP.1 kd i hl.1, fun kd i kd' i' hl hl' => hP.2 kd i kd' i' hl.1 hl'.1⟩
  have nb : ¬ Lv rg 8 b0 ∧ ¬ Lv rg 7 b0 := by
    constructor <;>
    · intro z
      rcases z with z | z | z | z | z | z | z
      · omega
      · omega
      · rw [z.2.2] at hr; cases hr
      · omega
      · omega
      · omega
      · omega
  have l8 : ¬ (LD (Lv rg) b0 25 8 b0 ∧ (8 : Nat) ≠ 1) := fun z => by
    rcases z.1 with z | z
    · exact nb.1 z
    · omega
  have e8 : q8 ≠ ad' 1 0 := fun z => n8 1 0 l1 z.symm
  have e7 : q7 ≠ ad' 1 0 := fun z => n7 1 0 l1 z.symm
  have s1 := LayP_one (k0 := 8) (i0 := b0) (q := q8) hQ (by
    rw [o4 _ e8, c8]
    show some (.inl (ar 4, 25, .inr (.inr (.inr (.inr (fun q => some (ad' 9 (20 * q + b0))))))) : va_E) = some (.inl (ar 4, 25, .inr (.inr (.inr (.inr (fun q => some (adu ad' 8 b0 q8 9 (20 * q + b0))))))))
    rw [show (fun q => some (adu ad' 8 b0 q8 9 (20 * q + b0))) = fun q => some (ad' 9 (20 * q + b0)) from funext fun q => by rw [adu_o (by omega)]]) (fun kd i hl => n8 kd i hl.1) l8 (fun kd i hl => by
    unfold rfs
    intro z
    have hk : kd = 7 ∧ b0 = i := by omega
    obtain ⟨rfl, rfl⟩ := hk
    rcases hl.1 with hl | hl
    · exact nb.2 hl
    · omega)
  have l7 : ¬ ((LD (Lv rg) b0 25 7 b0 ∧ (7 : Nat) ≠ 1) ∨ ((7 : Nat) = 8 ∧ b0 = b0)) := fun z => by
    rcases z with ⟨z | z, -⟩ | z
    · exact nb.2 z
    · omega
    · omega
  have n7' := NOT_adu (k0 := 8) (i0 := b0) (q := q8) (L := fun kd i => LD (Lv rg) b0 25 kd i ∧ kd ≠ 1) (fun kd i hl => n7 kd i hl.1) l8 n78
  have s2 := LayP_one (k0 := 7) (i0 := b0) (q := q7) s1 (by
    rw [o4 _ e7, c7]
    show some (.inr (5, [.int c1, .int c2, .ref q8]) : va_E) = some (.inr (5, [.int (rgV V b0 c1 c2 60 b0), .int (rgV V b0 c1 c2 61 b0), .ref (adu (adu ad' 8 b0 q8) 7 b0 q7 8 b0)]))
    rw [rgV_60, rgV_61, adu_o (by omega), adu_s]) n7' l7 (fun kd i hl => by
    unfold rfs
    intro z
    have hk : kd = 1 := by omega
    subst hk
    rcases hl with hl | hl
    · exact hl.2 rfl
    · omega)
  refine ⟨fun kd i hl => ?_, fun kd i kd' i' hl hl' he => ?_⟩
  · by_cases h1 : kd = 1
    · subst h1
      have hi : i = 0 := by
        rcases hl with z | z | z | z | z | z | z <;> omega
      subst hi
      rw [adu_o (by omega), adu_o (by omega), c9]
      show some (.inl (ar 3, 20, .inr (.inr (.inr (.inr (va_up (fun q => if rg q = true then some (ad' 7 q) else none) b0 (some q7)))))) : va_E) = some (.inl (ar 3, 20, .inr (.inr (.inr (.inr (fun q => if rgu rg b0 q = true then some (adu (adu ad' 8 b0 q8) 7 b0 q7 7 q) else none))))))
      rw [show va_up (fun q => if rg q = true then some (ad' 7 q) else none) b0 (some q7) = fun q => if rgu rg b0 q = true then some (adu (adu ad' 8 b0 q8) 7 b0 q7 7 q) else none from funext fun q => by
        unfold va_up rgu
        by_cases hq : q = b0
        · subst hq
          rw [if_pos rfl, if_pos (by rw [if_pos rfl]), adu_s]
        · rw [if_neg hq, if_neg hq, adu_o (by omega), adu_o (by omega)]]
    · exact s2.1 kd i (reg_live hl h1)
  · by_cases h1 : kd = 1
    · by_cases h2 : kd' = 1
      · subst h1; subst h2
        have hi : i = 0 := by
          rcases hl with z | z | z | z | z | z | z <;> omega
        have hi' : i' = 0 := by
          rcases hl' with z | z | z | z | z | z | z <;> omega
        exact ⟨rfl, hi.trans hi'.symm⟩
      · exact absurd he (Ne.symm (reg_ne hP n7 n8 hl h1 hl' h2))
    · by_cases h2 : kd' = 1
      · exact absurd he (reg_ne hP n7 n8 hl' h2 hl h1)
      · exact s2.2 kd i kd' i' (reg_live hl h1) (reg_live hl' h2) he
end GRW
