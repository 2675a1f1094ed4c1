/-! EQUAL ANSWERS: what class and model say of one state. -/
section EQA
variable {rg : Nat → Bool} {pl : Nat → Nat} {V M V' M' : fV} {f n : Nat}
theorem PR2_sd {v sp dy : Int32} (h : PR2 v sp dy) : sO v = sp ∧ dO v = dy := by
  obtain ⟨s0, d0, h1, h2, rfl, rfl, rfl⟩ := h
  have h3 : ¬ nI (d0 * 25 + s0) < 0 := nI_pos (by omega)
  unfold sO dO
  rw [if_neg h3, if_neg h3, pk_rem (by omega) (by decide) (by decide), pk_div (by omega) (by decide) (by decide)]
  have e1 : (d0 * 25 + s0) % 25 = s0 := by omega
  have e2 : (d0 * 25 + s0) / 25 = d0 := by omega
  rw [e1, e2]
  exact ⟨rfl, rfl⟩
theorem m1_sd : sO (-1) = -1 ∧ dO (-1) = -1 := by
  have h3 : (-1 : Int32) < 0 := by decide +kernel
  unfold sO dO
  rw [if_pos h3, if_pos h3]
  exact ⟨rfl, rfl⟩
theorem INV_cnt {a0 b0 : Nat} (h : INV rg pl V M f n) (ha : a0 < 25) (hb : b0 < 20) : ∃ nc, nc ≤ 12 ∧ V 34 (dx rg a0 b0) = nI nc ∧ M 3 (20 * a0 + b0) = nI nc ∧ ∀ j, j < nc → PR2 (V (100 + dx rg a0 b0) j) (M 9 (12 * (20 * a0 + b0) + j)) (M 10 (12 * (20 * a0 + b0) + j)) := by
  cases hr : rg b0 with
  | true =>
    have e1 : dx rg a0 b0 = 20 * a0 + b0 := if_pos hr
    obtain ⟨dc, pr, ac, g, ⟨q1, q2, q3, q4, q5, q6⟩, -⟩ := h.2.1.1 a0 b0 ha hb hr
    rw [e1]
    exact ⟨dc, q1.1, q3.1, q4.1, q5⟩
  | false =>
    have e1 : dx rg a0 b0 = 500 := if_neg (by rw [hr]; decide)
    rw [e1]
    exact ⟨0, by decide, h.2.1.2.2.1, (h.2.1.2.1 a0 b0 ha hb hr).1.1, fun j hj => absurd hj (Nat.not_lt_zero _)⟩
theorem INV_asks {a0 b0 : Nat} (h : INV rg pl V M f n) (ha : a0 < 25) (hb : b0 < 20) : V 39 (dx rg a0 b0) = 0 ↔ ¬ 0 < M 11 (20 * a0 + b0) := by
  cases hr : rg b0 with
  | true =>
    have e1 : dx rg a0 b0 = 20 * a0 + b0 := if_pos hr
    obtain ⟨dc, pr, ac, g, hD, hA⟩ := h.2.1.1 a0 b0 ha hb hr
    rw [e1, hA.1.2.2.1]
    rcases hA.2 with q | q
    · rw [q.2.2.1, q.1]; exact ⟨fun _ => by decide +kernel, fun _ => nI_0⟩
    · have hd := q.1.1
      have hp : (0 : Int32) < M 11 (20 * a0 + b0) := by rw [q.1.2.1, ← nI_0]; exact nI_lt (by omega) (by omega)
      refine ⟨fun z => ?_, fun z => absurd hp z⟩
      rcases q.2.2.2.2.2 with w | w
      · rw [w] at z; exact absurd z (by decide +kernel)
      · rw [w.1] at z; exact absurd z (by decide +kernel)
  | false =>
    have e1 : dx rg a0 b0 = 500 := if_neg (by rw [hr]; decide)
    obtain ⟨-, -, -, -, -, -, h39, -⟩ := h.2.1.2.2
    obtain ⟨-, k11, -⟩ := h.2.1.2.1 a0 b0 ha hb hr
    rw [e1, h39, k11]
    exact ⟨fun _ => by decide +kernel, fun _ => nI_0⟩
theorem EQ_state {a0 b0 nc : Nat} (h : INV rg pl V M f n) (ha : a0 < 25) (hb : b0 < 20) (hc : V 34 (dx rg a0 b0) = nI nc) (hc2 : nc ≤ 12) : sst V (dx rg a0 b0) a0 nc = mst M (20 * a0 + b0) a0 nc := by
  obtain ⟨nc', h1, h2, h3, h4⟩ := INV_cnt h ha hb
  obtain rfl : nc = nc' := (nI_eq (by omega) (by omega)).mp (hc.symm.trans h2)
  have hk := INV_asks h ha hb
  unfold sst mst
  by_cases hz : V 39 (dx rg a0 b0) = 0
  · rw [if_neg (fun z => z hz), if_neg (hk.mp hz)]
    by_cases h0 : nc = 0
    · rw [if_pos h0, if_pos h0]
    · rw [if_neg h0, if_neg h0]
      have q := PR2_sd (h4 (nc - 1) (by omega))
      have e1 : 12 * (20 * a0 + b0) + nc - 1 = 12 * (20 * a0 + b0) + (nc - 1) := by omega
      rw [e1, q.1]
  · rw [if_pos hz, if_pos (Classical.byContradiction fun z => hz (hk.mpr z))]
theorem EQ_granted {a0 b0 nc j : Nat} (h : INV rg pl V M f n) (ha : a0 < 25) (hb : b0 < 20) (hc : V 34 (dx rg a0 b0) = nI nc) (hc2 : nc ≤ 12) (hj : 1 ≤ j) : sO (sgr V (dx rg a0 b0) j nc) = (if nc < j then (-1) else M 9 (12 * (20 * a0 + b0) + j - 1)) ∧ dO (sgr V (dx rg a0 b0) j nc) = (if nc < j then (-1) else M 10 (12 * (20 * a0 + b0) + j - 1)) := by
  obtain ⟨nc', h1, h2, h3, h4⟩ := INV_cnt h ha hb
  obtain rfl : nc = nc' := (nI_eq (by omega) (by omega)).mp (hc.symm.trans h2)
  unfold sgr
  by_cases hz : nc < j
  · rw [if_pos hz, if_pos hz, if_pos hz]; exact m1_sd
  · rw [if_neg hz, if_neg hz, if_neg hz]
    have e1 : 12 * (20 * a0 + b0) + j - 1 = 12 * (20 * a0 + b0) + (j - 1) := by omega
    rw [e1]
    exact PR2_sd (h4 (j - 1) (by omega))
theorem EQ_letter {i j : Nat} (h : INV rg pl V M f n) (hi : i < n) (hj : j < 10) : lpt V (pl ((f + i) % 100 + 1)) j = M 21 (34 * i + j) := by
  obtain ⟨kd, fr, s0, b0, su, nu, mo, c2, -, ⟨a1, a2, a3, a4, a5, a6, a7, a8⟩, ⟨b1, b2, b3, b4, b5, b6, b7, b8⟩, hq, -⟩ := h.1.2.2.2.2 i hi
  have hsd : sO (V 51 (pl ((f + i) % 100 + 1))) = M 21 (34 * i + 7) ∧ dO (V 51 (pl ((f + i) % 100 + 1))) = M 21 (34 * i + 8) := by
    rcases hq with q | ⟨-, q1, q2, q3⟩
    · exact PR2_sd q
    · rw [q1, q2, q3]; exact m1_sd
  have hjj : j = 0 ∨ j = 1 ∨ j = 2 ∨ j = 3 ∨ j = 4 ∨ j = 5 ∨ j = 6 ∨ j = 7 ∨ j = 8 ∨ j = 9 := by omega
  unfold lpt
  rcases hjj with rfl | rfl | rfl | rfl | rfl | rfl | rfl | rfl | rfl | rfl
  · rw [if_pos (by decide)]; exact a1.trans b1.symm
  · rw [if_pos (by decide)]; exact a2.trans b2.symm
  · rw [if_pos (by decide)]; exact a3.trans b3.symm
  · rw [if_pos (by decide)]; exact a4.trans b4.symm
  · rw [if_pos (by decide)]; exact a5.trans b5.symm
  · rw [if_pos (by decide)]; exact a6.trans b6.symm
  · rw [if_pos (by decide)]; exact a7.trans b7.symm
  · rw [if_neg (by decide), if_pos rfl]; exact hsd.1
  · rw [if_neg (by decide), if_neg (by decide), if_pos rfl]; exact hsd.2
  · rw [if_neg (by decide), if_neg (by decide), if_neg (by decide)]; exact a8.trans b8.symm
theorem EQ_total {j : Nat} (h : INV rg pl V M f n) : stt V j = mtt M j := by
  obtain ⟨t1, t2, t3⟩ := h.1.2.2.2.1
  unfold stt mtt
  rw [t1, t2, t3]
theorem lbs_bit {i k : Nat} (hi : i ≤ 25) (hk : k < 25) : (lbs M i).toBitVec.getLsbD k = (decide (k < i) && decide (M 2 k = 0)) := by
  induction i with
  | zero =>
    show (nI 0).toBitVec.getLsbD k = _
    rw [nI_bit _ (by omega)]
    simp
  | succ i ih =>
    have ih := ih (by omega)
    by_cases hz : M 2 i = 0
    · have e1 : lbs M (i + 1) = lbs M i ||| nI 1 <<< (nI i &&& 31) := if_pos hz
      rw [e1, Int32.toBitVec_or, BitVec.getLsbD_or, ih, shl_1 (by omega), nI_bit _ (by omega), Nat.testBit_two_pow]
      by_cases h1 : i = k
      · subst h1; simp [hz]
      · have h2 : decide (k < i + 1) = decide (k < i) := by
          by_cases h3 : k < i
          · rw [decide_eq_true h3, decide_eq_true (by omega)]
          · rw [decide_eq_false h3, decide_eq_false (by omega)]
        rw [h2, decide_eq_false h1, Bool.or_false]
    · have e1 : lbs M (i + 1) = lbs M i ||| nI 0 := if_neg hz
      rw [e1, Int32.toBitVec_or, BitVec.getLsbD_or, ih, nI_bit _ (by omega), Nat.zero_testBit, Bool.or_false]
      by_cases h1 : i = k
      · subst h1
        rw [decide_eq_false hz, Bool.and_false, Bool.and_false]
      · have h2 : decide (k < i + 1) = decide (k < i) := by
          by_cases h3 : k < i
          · rw [decide_eq_true h3, decide_eq_true (by omega)]
          · rw [decide_eq_false h3, decide_eq_false (by omega)]
        rw [h2]
theorem EQ_live (h : INV rg pl V M f n) : slv (V 59 0) = mlv (lbs M 25) := by
  have hb : ∀ k, k < 25 → (V 59 0).toBitVec.getLsbD k = (lbs M 25).toBitVec.getLsbD k := fun k hk => by
    rw [lbs_bit (Nat.le_refl _) hk]
    have hbi := bit_iff (V 59 0) hk
    rcases h.2.2.1 k hk with ⟨u, m2⟩ | ⟨u, m2⟩
    · unfold upb at u
      rw [hbi.mp (of_decide_eq_true u), m2, decide_eq_true hk, decide_eq_true nI_0]
      rfl
    · unfold upb at u
      have hu := of_decide_eq_false u
      have hf : (V 59 0).toBitVec.getLsbD k = false := by
        cases hg : (V 59 0).toBitVec.getLsbD k with
        | false => rfl
        | true => exact absurd (hbi.mpr hg) hu
      have h1 : ¬ nI 1 = (0 : Int32) := by decide +kernel
      rw [hf, m2, decide_eq_false h1, Bool.and_false]
  unfold slv mlv
  rw [bits_1 hb, bits_2 hb]
end EQA
