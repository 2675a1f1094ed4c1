/-! COLUMNS of shops as bits: class and model count alike. -/
theorem sh_bv (v : Int32) {k : Nat} (h : k < 25) : (v >>> (nI k &&& 31)).toBitVec = v.toBitVec.sshiftRight k := by
  rw [Int32.toBitVec_shiftRight]
  have : k = 0 ∨ k = 1 ∨ k = 2 ∨ k = 3 ∨ k = 4 ∨ k = 5 ∨ k = 6 ∨ k = 7 ∨ k = 8 ∨ k = 9 ∨ k = 10 ∨ k = 11 ∨ k = 12 ∨ k = 13 ∨ k = 14 ∨ k = 15 ∨ k = 16 ∨ k = 17 ∨ k = 18 ∨ k = 19 ∨ k = 20 ∨ k = 21 ∨ k = 22 ∨ k = 23 ∨ k = 24 := by omega
  rcases this with rfl | rfl | rfl | rfl | rfl | rfl | rfl | rfl | rfl | rfl | rfl | rfl | rfl | rfl | rfl | rfl | rfl | rfl | rfl | rfl | rfl | rfl | rfl | rfl | rfl <;> rfl
theorem sh_bit (v : Int32) {k i : Nat} (h : k < 25) (hi : k + i < 32) : (v >>> (nI k &&& 31)).toBitVec.getLsbD i = v.toBitVec.getLsbD (k + i) := by
  rw [sh_bv v h, BitVec.getLsbD_sshiftRight]
  have h1 : ¬ 32 ≤ i := by omega
  simp [h1, hi]
theorem bit_iff (v : Int32) {k : Nat} (h : k < 25) : ((v >>> (nI k &&& 31)) &&& nI 1 = nI 1) ↔ v.toBitVec.getLsbD k = true := by
  constructor
  · intro e
    have e2 := congrArg (fun z : Int32 => z.toBitVec.getLsbD 0) e
    simp only [Int32.toBitVec_and, BitVec.getLsbD_and] at e2
    rw [sh_bit v h (by omega)] at e2
    have e3 : (nI 1).toBitVec.getLsbD 0 = true := by decide
    rw [e3, Bool.and_true] at e2
    exact e2
  · intro e
    apply Int32.toBitVec_inj.mp
    apply BitVec.eq_of_getLsbD_eq
    intro i hi
    rw [Int32.toBitVec_and, BitVec.getLsbD_and]
    by_cases h0 : i = 0
    · subst h0
      rw [sh_bit v h (by omega), Nat.add_zero, e]
      rfl
    · have : (nI 1).toBitVec.getLsbD i = false := by
        have h2 : (nI 1).toBitVec = 1#32 := by decide
        rw [h2, BitVec.getLsbD_one]
        simp [h0]
      rw [this, Bool.and_false]
theorem msk_bit {i : Nat} (hi : i < 32) : (1082401 : Int32).toBitVec.getLsbD i = decide (i = 0 ∨ i = 5 ∨ i = 10 ∨ i = 15 ∨ i = 20) := by
  have : i = 0 ∨ i = 1 ∨ i = 2 ∨ i = 3 ∨ i = 4 ∨ i = 5 ∨ i = 6 ∨ i = 7 ∨ i = 8 ∨ i = 9 ∨ i = 10 ∨ i = 11 ∨ i = 12 ∨ i = 13 ∨ i = 14 ∨ i = 15 ∨ i = 16 ∨ i = 17 ∨ i = 18 ∨ i = 19 ∨ i = 20 ∨ i = 21 ∨ i = 22 ∨ i = 23 ∨ i = 24 ∨ i = 25 ∨ i = 26 ∨ i = 27 ∨ i = 28 ∨ i = 29 ∨ i = 30 ∨ i = 31 := by omega
  rcases this with rfl | rfl | rfl | rfl | rfl | rfl | rfl | rfl | rfl | rfl | rfl | rfl | rfl | rfl | rfl | rfl | rfl | rfl | rfl | rfl | rfl | rfl | rfl | rfl | rfl | rfl | rfl | rfl | rfl | rfl | rfl | rfl <;> decide
/-- a column of the class: none of its shops, all of its shops -/
theorem tcb_0 (v : Int32) {c : Nat} (h : c < 5) : tcb v c = 0 ↔ ∀ r, r < 5 → v.toBitVec.getLsbD (5 * r + c) = false := by
  unfold tcb
  constructor
  · intro e r hr
    have e2 := congrArg (fun z : Int32 => z.toBitVec.getLsbD (5 * r)) e
    simp only [Int32.toBitVec_and, BitVec.getLsbD_and] at e2
    rw [sh_bit v (by omega) (by omega), msk_bit (by omega)] at e2
    have e3 : decide (5 * r = 0 ∨ 5 * r = 5 ∨ 5 * r = 10 ∨ 5 * r = 15 ∨ 5 * r = 20) = true := decide_eq_true (by omega)
    rw [e3, Bool.and_true] at e2
    rw [Nat.add_comm]
    have e4 : (0 : Int32).toBitVec.getLsbD (5 * r) = false := by
      have : (0 : Int32).toBitVec = 0#32 := by decide
      rw [this]; simp
    exact e2.trans e4
  · intro e
    apply Int32.toBitVec_inj.mp
    apply BitVec.eq_of_getLsbD_eq
    intro i hi
    have e4 : (0 : Int32).toBitVec.getLsbD i = false := by
      have : (0 : Int32).toBitVec = 0#32 := by decide
      rw [this]; simp
    rw [Int32.toBitVec_and, BitVec.getLsbD_and, msk_bit hi, e4]
    by_cases h1 : i = 0 ∨ i = 5 ∨ i = 10 ∨ i = 15 ∨ i = 20
    · rw [sh_bit v (by omega) (by omega)]
      have := e (i / 5) (by omega)
      have h2 : 5 * (i / 5) + c = c + i := by omega
      rw [h2] at this
      rw [this, Bool.false_and]
    · rw [decide_eq_false h1, Bool.and_false]
theorem tcb_1 (v : Int32) {c : Nat} (h : c < 5) : tcb v c = 1082401 ↔ ∀ r, r < 5 → v.toBitVec.getLsbD (5 * r + c) = true := by
  unfold tcb
  constructor
  · intro e r hr
    have e2 := congrArg (fun z : Int32 => z.toBitVec.getLsbD (5 * r)) e
    simp only [Int32.toBitVec_and, BitVec.getLsbD_and] at e2
    rw [sh_bit v (by omega) (by omega), msk_bit (by omega)] at e2
    have e3 : decide (5 * r = 0 ∨ 5 * r = 5 ∨ 5 * r = 10 ∨ 5 * r = 15 ∨ 5 * r = 20) = true := decide_eq_true (by omega)
    rw [e3, Bool.and_true] at e2
    rw [Nat.add_comm]
    exact e2
  · intro e
    apply Int32.toBitVec_inj.mp
    apply BitVec.eq_of_getLsbD_eq
    intro i hi
    rw [Int32.toBitVec_and, BitVec.getLsbD_and, msk_bit hi]
    by_cases h1 : i = 0 ∨ i = 5 ∨ i = 10 ∨ i = 15 ∨ i = 20
    · rw [sh_bit v (by omega) (by omega)]
      have := e (i / 5) (by omega)
      have h2 : 5 * (i / 5) + c = c + i := by omega
      rw [h2] at this
      rw [this, Bool.true_and]
    · rw [decide_eq_false h1, Bool.and_false]
theorem anc_0 (v : Int32) {c : Nat} (h : c < 5) (r : Nat) (hr : r ≤ 5) : anc v c r = 0 ↔ ∀ q, q < r → v.toBitVec.getLsbD (5 * q + c) = false := by
  induction r with
  | zero => exact ⟨fun _ q hq => absurd hq (Nat.not_lt_zero _), fun _ => rfl⟩
  | succ r ih =>
    have ih := ih (by omega)
    have hb := bit_iff v (k := 5 * r + c) (by omega)
    unfold anc
    by_cases h1 : anc v c r = 1
    · rw [if_pos h1]
      constructor
      · intro e; cases e
      · intro e
        have := ih.mpr (fun q hq => e q (by omega))
        omega
    · rw [if_neg h1]
      have h0 : anc v c r = 0 := by have := anc_le v c r; omega
      by_cases h2 : (v >>> (nI (5 * r + c) &&& 31)) &&& nI 1 = nI 1
      · rw [if_pos h2]
        constructor
        · intro e; cases e
        · intro e
          have := e r (by omega)
          rw [hb.mp h2] at this
          cases this
      · rw [if_neg h2]
        refine ⟨fun _ q hq => ?_, fun _ => rfl⟩
        by_cases h3 : q = r
        · subst h3
          have := mt hb.mpr h2
          simpa using this
        · exact ih.mp h0 q (by omega)
theorem alc_1 (v : Int32) {c : Nat} (h : c < 5) (r : Nat) (hr : r ≤ 5) : alc v c r = 1 ↔ ∀ q, q < r → v.toBitVec.getLsbD (5 * q + c) = true := by
  induction r with
  | zero => exact ⟨fun _ q hq => absurd hq (Nat.not_lt_zero _), fun _ => rfl⟩
  | succ r ih =>
    have ih := ih (by omega)
    have hb := bit_iff v (k := 5 * r + c) (by omega)
    unfold alc
    by_cases h1 : alc v c r = 0
    · rw [if_pos h1]
      constructor
      · intro e; cases e
      · intro e
        have := ih.mpr (fun q hq => e q (by omega))
        omega
    · rw [if_neg h1]
      have h0 : alc v c r = 1 := by have := alc_le v c r; omega
      by_cases h2 : (v >>> (nI (5 * r + c) &&& 31)) &&& nI 1 = nI 1
      · rw [if_pos h2]
        refine ⟨fun _ q hq => ?_, fun _ => rfl⟩
        by_cases h3 : q = r
        · subst h3; exact hb.mp h2
        · exact ih.mp h0 q (by omega)
      · rw [if_neg h2]
        constructor
        · intro e; cases e
        · intro e
          exact absurd (hb.mpr (e r (by omega))) h2
theorem bits_1 {v w : Int32} (h : ∀ k, k < 25 → v.toBitVec.getLsbD k = w.toBitVec.getLsbD k) : tec v = hec w := by
  have e : ∀ c, c < 5 → (tcb v c = 0 ↔ ¬ anc w c 5 = 1) := fun c hc => by
    have h1 := anc_le w c 5
    rw [tcb_0 v hc]
    have h2 := anc_0 w hc 5 (Nat.le_refl _)
    constructor
    · intro q
      have := h2.mpr (fun r hr => by rw [← h _ (by omega)]; exact q r hr)
      omega
    · intro q r hr
      rw [h _ (by omega)]
      exact h2.mp (by omega) r hr
  unfold tec hec
  simp only [e 0 (by decide), e 1 (by decide), e 2 (by decide), e 3 (by decide), e 4 (by decide)]
  by_cases h1 : anc w 0 5 = 1 ∧ anc w 1 5 = 1 ∧ anc w 2 5 = 1 ∧ anc w 3 5 = 1 ∧ anc w 4 5 = 1
  · rw [if_pos h1, if_neg (by omega)]
  · rw [if_neg h1, if_pos (by omega)]
theorem bits_2 {v w : Int32} (h : ∀ k, k < 25 → v.toBitVec.getLsbD k = w.toBitVec.getLsbD k) : hwc v = hwm w := by
  have e : ∀ c, c < 5 → (tcb v c = 1082401 ↔ alc w c 5 = 1) := fun c hc => by
    rw [tcb_1 v hc, alc_1 w hc 5 (Nat.le_refl _)]
    exact ⟨fun q r hr => by rw [← h _ (by omega)]; exact q r hr, fun q r hr => by rw [h _ (by omega)]; exact q r hr⟩
  unfold hwc hwm
  simp only [e 0 (by decide), e 1 (by decide), e 2 (by decide), e 3 (by decide), e 4 (by decide)]
