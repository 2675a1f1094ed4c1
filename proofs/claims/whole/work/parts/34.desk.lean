/-! WHAT HOLDS between class and model: desks, shops, prescriptions. -/
def DKv (V M : fV) (a s0 b0 dc pr ac g : Nat) : Prop :=
  (dc ≤ 12 ∧ pr ≤ 25024 ∧ ac ≤ 25024 ∧ g ≤ 25024) ∧ (V 63 a = nI s0 ∧ V 64 a = nI b0) ∧ (V 34 a = nI dc ∧ V 30 a = nI pr ∧ V 31 a = nI ac ∧ V 33 a = nI g) ∧ (M 3 a = nI dc ∧ M 4 a = nI pr ∧ M 5 a = nI ac ∧ M 8 a = nI g) ∧
  (∀ j, j < dc → PR2 (V (100 + a) j) (M 9 (12 * a + j)) (M 10 (12 * a + j))) ∧ ((ac = 0 ∧ V 32 a = -1) ∨ (0 < ac ∧ PR2 (V 32 a) (M 6 a) (M 7 a)))
/-- the shop does not ask -/
def AK0 (M : fV) (a : Nat) : Prop := M 11 a = nI 0 ∧ M 14 a = nI 0 ∧ M 15 a = nI 0 ∧ M 16 a = nI 0
/-- it asks for the open supply -/
def AK1 (V M : fV) (a s0 dc : Nat) : Prop :=
  (dc < 12 ∧ M 11 a = nI (dc + 1) ∧ M 2 s0 = nI 0) ∧ (∃ nu, 1 ≤ nu ∧ nu ≤ 25024 ∧ M 14 a = nI nu) ∧ (∃ an, an < 2 ^ 25 ∧ M 16 a = nI an) ∧ PR2 (V 37 a) (M 12 a) (M 13 a) ∧ (∃ rf, rf ≤ 25024 ∧ V 41 a = nI rf ∧ M 20 a = nI rf) ∧
  (M 15 a = nI 2 ∨ (M 15 a = nI 1 ∧ ∃ bn, bn ≤ 25024 ∧ V 42 a = nI bn ∧ M 17 a = nI bn ∧ (bn = 0 ∨ PR2 (V 43 a) (M 18 a) (M 19 a))))
def AKv (V M : fV) (a s0 dc : Nat) : Prop := (V 36 a = M 11 a ∧ V 38 a = M 14 a ∧ V 39 a = M 15 a ∧ V 40 a = M 16 a) ∧ (AK0 M a ∨ AK1 V M a s0 dc)
def DSK (V M : fV) (a s0 b0 : Nat) : Prop := ∃ dc pr ac g, DKv V M a s0 b0 dc pr ac g ∧ AKv V M a s0 dc
def DSN (M : fV) (a : Nat) : Prop := (M 3 a = nI 0 ∧ M 4 a = nI 0 ∧ M 5 a = nI 0 ∧ M 8 a = nI 0) ∧ AK0 M a
def D500 (V : fV) : Prop := V 34 500 = nI 0 ∧ V 30 500 = nI 0 ∧ V 31 500 = nI 0 ∧ V 32 500 = -1 ∧ V 33 500 = nI 0 ∧ V 38 500 = nI 0 ∧ V 39 500 = nI 0 ∧ V 40 500 = nI 0
def DSKI (rg : Nat → Bool) (V M : fV) : Prop := (∀ s0 b0, s0 < 25 → b0 < 20 → rg b0 = true → DSK V M (20 * s0 + b0) s0 b0) ∧ (∀ s0 b0, s0 < 25 → b0 < 20 → rg b0 = false → DSN M (20 * s0 + b0)) ∧ D500 V
def UPI (V M : fV) : Prop := ∀ s0, s0 < 25 → (upb V (nI s0) = true ∧ M 2 s0 = nI 0) ∨ (upb V (nI s0) = false ∧ M 2 s0 = nI 1)
def REGI (rg : Nat → Bool) (V M : fV) : Prop := ∀ b0, b0 < 20 → (rg b0 = true → ∃ sp ap, 1 ≤ sp ∧ sp ≤ 12 ∧ ap ≤ 90 ∧ V 60 b0 = nI sp ∧ V 61 b0 = nI ap ∧ M 0 b0 = nI sp ∧ M 1 b0 = nI ap) ∧ (rg b0 = false → M 0 b0 = nI 0)
def INV (rg : Nat → Bool) (pl : Nat → Nat) (V M : fV) (f n : Nat) : Prop := ROWI rg pl V M f n ∧ DSKI rg V M ∧ UPI V M ∧ REGI rg V M
theorem DSK_cg {V M V' M' : fV} {a s0 b0 : Nat} (hV : ∀ k, 30 ≤ k ∧ k ≤ 43 ∨ k = 63 ∨ k = 64 → V' k a = V k a) (hP : ∀ j, V' (100 + a) j = V (100 + a) j) (hM : ∀ k, 3 ≤ k ∧ k ≤ 20 ∧ k ≠ 9 ∧ k ≠ 10 → M' k a = M k a) (h9 : ∀ j, j < 12 → M' 9 (12 * a + j) = M 9 (12 * a + j) ∧ M' 10 (12 * a + j) = M 10 (12 * a + j)) (h2 : M' 2 s0 = M 2 s0) (h : DSK V M a s0 b0) : DSK V' M' a s0 b0 := by
  obtain ⟨dc, pr, ac, g, ⟨q1, q2, q3, q4, q5, q6⟩, q7, q8⟩ := h
  have v30 := hV 30 (by decide)
  have v31 := hV 31 (by decide)
  have v32 := hV 32 (by decide)
  have v33 := hV 33 (by decide)
  have v34 := hV 34 (by decide)
  have v36 := hV 36 (by decide)
  have v37 := hV 37 (by decide)
  have v38 := hV 38 (by decide)
  have v39 := hV 39 (by decide)
  have v40 := hV 40 (by decide)
  have v41 := hV 41 (by decide)
  have v42 := hV 42 (by decide)
  have v43 := hV 43 (by decide)
  have v63 := hV 63 (by decide)
  have v64 := hV 64 (by decide)
  have m3 := hM 3 (by decide)
  have m4 := hM 4 (by decide)
  have m5 := hM 5 (by decide)
  have m6 := hM 6 (by decide)
  have m7 := hM 7 (by decide)
  have m8 := hM 8 (by decide)
  have m11 := hM 11 (by decide)
  have m12 := hM 12 (by decide)
  have m13 := hM 13 (by decide)
  have m14 := hM 14 (by decide)
  have m15 := hM 15 (by decide)
  have m16 := hM 16 (by decide)
  have m17 := hM 17 (by decide)
  have m18 := hM 18 (by decide)
  have m19 := hM 19 (by decide)
  have m20 := hM 20 (by decide)
  refine ⟨dc, pr, ac, g, ⟨q1, ?_, ?_, ?_, ?_, ?_⟩, ?_, ?_⟩
  · rw [v63, v64]; exact q2
  · rw [v34, v30, v31, v33]; exact q3
  · rw [m3, m4, m5, m8]; exact q4
  · intro j hj
    have := q1.1
    rw [hP, (h9 j (by omega)).1, (h9 j (by omega)).2]
    exact q5 j hj
  · rw [v32, m6, m7]; exact q6
  · rw [v36, v38, v39, v40, m11, m14, m15, m16]; exact q7
  · unfold AK0 AK1
    rw [v37, v41, v42, v43, m11, m12, m13, m14, m15, m16, m17, m18, m19, m20, h2]
    exact q8
theorem DSN_cg {M M' : fV} {a : Nat} (hM : ∀ k, 3 ≤ k ∧ k ≤ 20 ∧ k ≠ 9 ∧ k ≠ 10 → M' k a = M k a) (h : DSN M a) : DSN M' a := by
  unfold DSN AK0
  rw [hM 3 (by decide), hM 4 (by decide), hM 5 (by decide), hM 8 (by decide), hM 11 (by decide), hM 14 (by decide), hM 15 (by decide), hM 16 (by decide)]
  exact h
theorem D500_cg {V V' : fV} (hV : ∀ k, 30 ≤ k ∧ k ≤ 43 → V' k 500 = V k 500) (h : D500 V) : D500 V' := by
  unfold D500
  rw [hV 34 (by decide), hV 30 (by decide), hV 31 (by decide), hV 32 (by decide), hV 33 (by decide), hV 38 (by decide), hV 39 (by decide), hV 40 (by decide)]
  exact h
/-- what touches letters alone -/
theorem DSKI_row {rg : Nat → Bool} {V M V' M' : fV} (hV : ∀ k i, k < 44 ∨ 59 ≤ k ∧ k < 1000 → V' k i = V k i) (hM : ∀ k i, k ≤ 20 → M' k i = M k i) (h : DSKI rg V M) : DSKI rg V' M' :=
  ⟨fun s0 b0 h1 h2 h3 => DSK_cg (fun k hk => hV k _ (by omega)) (fun j => hV _ j (by omega)) (fun k hk => hM k _ (by omega)) (fun j _ => ⟨hM 9 _ (by decide), hM 10 _ (by decide)⟩) (hM 2 _ (by decide)) (h.1 s0 b0 h1 h2 h3),
   fun s0 b0 h1 h2 h3 => DSN_cg (fun k hk => hM k _ (by omega)) (h.2.1 s0 b0 h1 h2 h3), D500_cg (fun k hk => hV k _ (by omega)) h.2.2⟩
/-- what touches one desk alone -/
theorem DSKI_one {rg : Nat → Bool} {V M V' M' : fV} {s1 b1 : Nat} (hs1 : s1 < 25) (hb1 : b1 < 20) (hr1 : rg b1 = true) (hV : ∀ k i, 30 ≤ k ∧ k ≤ 43 ∨ k = 63 ∨ k = 64 → i ≠ 20 * s1 + b1 → V' k i = V k i) (hP : ∀ i j, i < 500 → i ≠ 20 * s1 + b1 → V' (100 + i) j = V (100 + i) j)
    (hM : ∀ k i, 3 ≤ k ∧ k ≤ 20 ∧ k ≠ 9 ∧ k ≠ 10 → i ≠ 20 * s1 + b1 → M' k i = M k i) (h9 : ∀ k i j, k = 9 ∨ k = 10 → j < 12 → i ≠ 20 * s1 + b1 → M' k (12 * i + j) = M k (12 * i + j)) (h2 : ∀ i, M' 2 i = M 2 i) (hD : DSK V' M' (20 * s1 + b1) s1 b1) (h : DSKI rg V M) : DSKI rg V' M' := by
  refine ⟨fun s0 b0 i1 i2 i3 => ?_, fun s0 b0 i1 i2 i3 => ?_, D500_cg (fun k hk => hV k _ (by omega) (by omega)) h.2.2⟩
  · by_cases he : 20 * s0 + b0 = 20 * s1 + b1
    · have e1 : s0 = s1 := by omega
      have e2 : b0 = b1 := by omega
      subst e1; subst e2
      exact hD
    · exact DSK_cg (fun k hk => hV k _ hk he) (fun j => hP _ j (by omega) he) (fun k hk => hM k _ hk he) (fun j hj => ⟨h9 9 _ j (Or.inl rfl) hj he, h9 10 _ j (Or.inr rfl) hj he⟩) (h2 _) (h.1 s0 b0 i1 i2 i3)
  · have he : 20 * s0 + b0 ≠ 20 * s1 + b1 := fun e => by
      have e2 : b0 = b1 := by omega
      subst e2
      rw [hr1] at i3
      cases i3
    exact DSN_cg (fun k hk => hM k _ hk he) (h.2.1 s0 b0 i1 i2 i3)
theorem UPI_cg {V M V' M' : fV} (h1 : V' 59 0 = V 59 0) (h2 : ∀ i, M' 2 i = M 2 i) (h : UPI V M) : UPI V' M' := by
  intro s0 hs
  have : ∀ k, upb V' k = upb V k := fun k => by unfold upb; rw [h1]
  rw [this, h2]
  exact h s0 hs
theorem REGI_cg {rg : Nat → Bool} {V M V' M' : fV} (h1 : ∀ k i, k = 60 ∨ k = 61 → V' k i = V k i) (h2 : ∀ k i, k ≤ 1 → M' k i = M k i) (h : REGI rg V M) : REGI rg V' M' := by
  intro b0 hb
  rw [h1 60 b0 (by decide), h1 61 b0 (by decide), h2 0 b0 (by decide), h2 1 b0 (by decide)]
  exact h b0 hb
/-- what touches desks alone leaves the row as it was -/
theorem ROWI_cg {rg : Nat → Bool} {pl : Nat → Nat} {V M V' M' : fV} {f n : Nat} (hV : ∀ k i, 44 ≤ k ∧ k ≤ 58 ∨ 1000 ≤ k ∧ k ≠ 1101 → k ≤ 52 → i ≠ 101 → V' k i = V k i) (hV2 : ∀ k, 53 ≤ k → k ≤ 58 → V' k 0 = V k 0) (hP : ∀ i j, i < 101 → V' (1000 + i) j = V (1000 + i) j) (hM : ∀ i, M' 21 i = M 21 i) (hM2 : ∀ k, k = 22 ∨ k = 24 ∨ k = 25 ∨ k = 26 → M' k 0 = M k 0) (h : ROWI rg pl V M f n) : ROWI rg pl V' M' f n := by
  obtain ⟨⟨hf, hf2, hn, hn2, hpl⟩, h22, hinj, ⟨t1, t2, t3⟩, hL⟩ := h
  refine ⟨⟨(hV2 54 (by decide) (by decide)).trans hf, hf2, (hV2 55 (by decide) (by decide)).trans hn, hn2, hpl⟩, (hM2 22 (by decide)).trans h22, hinj, ⟨?_, ?_, ?_⟩, fun i hi => ?_⟩
  · rw [hV2 56 (by decide) (by decide), hM2 24 (by decide)]; exact t1
  · rw [hV2 57 (by decide) (by decide), hM2 25 (by decide)]; exact t2
  · rw [hV2 58 (by decide) (by decide), hM2 26 (by decide)]; exact t3
  · obtain ⟨kd', fr', to', b', su', nu', mo', c2', hv⟩ := hL i hi
    have := hpl ((f + i) % 100 + 1) (by omega)
    exact ⟨kd', fr', to', b', su', nu', mo', c2', LTv_move hv (fun q q1 q2 => hV q _ (by omega) q2 (by omega)) (fun q hq => hP _ q this) (fun q hq => hM _)⟩
