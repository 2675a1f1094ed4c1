/-! LEARNING what a letter tells goes alike. -/
section SLN
variable {rg : Nat → Bool} {pl : Nat → Nat} {V M V' M' : fV} {f n : Nat}
theorem mln_x {a dc k i : Nat} {sp dy : Int32} (h : ¬ (k = 3 ∨ k = 4 ∨ k = 5 ∨ k = 11 ∨ k = 14 ∨ k = 15 ∨ k = 16) ∨ i ≠ a) (h2 : k ≠ 9 ∧ k ≠ 10 ∨ i ≠ 12 * a + dc) : mln M a dc sp dy k i = M k i := by
  unfold mln
  split
  · rw [mse_o (by omega)]
    repeat rw [mu_o (by omega)]
  · repeat rw [mu_o (by omega)]
theorem mln_9 {a dc : Nat} {sp dy : Int32} : mln M a dc sp dy 9 (12 * a + dc) = sp ∧ mln M a dc sp dy 10 (12 * a + dc) = dy := by
  unfold mln
  split
  · rw [mse_o (by omega), mse_o (by omega)]
    constructor <;> simp [mu]
  · constructor <;> simp [mu]
theorem mln_4 {a dc : Nat} {sp dy : Int32} : mln M a dc sp dy 4 a = nI 0 ∧ mln M a dc sp dy 5 a = nI 0 := by
  unfold mln
  split
  · rw [mse_o (by omega), mse_o (by omega)]
    constructor <;> simp [mu]
  · constructor <;> simp [mu]
theorem mln_ak {a dc : Nat} {sp dy : Int32} (h : AK0 M a ∨ M 11 a = nI (dc + 1)) : AK0 (mln M a dc sp dy) a := by
  unfold mln
  by_cases h1 : M 11 a = nI (dc + 1)
  · rw [if_pos h1]; exact mse_v
  · rw [if_neg h1]
    rcases h with h | h
    · unfold AK0
      repeat rw [mu_o (by omega)]
      exact h
    · exact absurd h h1
theorem mla_x {a dc k i : Nat} (j : Nat) (h : ¬ (k = 3 ∨ k = 4 ∨ k = 5 ∨ k = 11 ∨ k = 14 ∨ k = 15 ∨ k = 16) ∨ i ≠ a) (h2 : k ≠ 9 ∧ k ≠ 10 ∨ i < 12 * a + dc ∨ 12 * a + dc + j ≤ i) : mla M a dc j k i = M k i := by
  induction j with
  | zero => rfl
  | succ j ih => exact (mln_x h (by omega)).trans (ih (by omega))
theorem mla_9 {a dc q : Nat} (j : Nat) (h1 : dc ≤ q) (h2 : q < dc + j) : mla M a dc j 9 (12 * a + q) = M 23 (10 + 2 * q) ∧ mla M a dc j 10 (12 * a + q) = M 23 (11 + 2 * q) := by
  induction j with
  | zero => omega
  | succ j ih =>
    by_cases hq : q = dc + j
    · subst hq; exact mln_9
    · have ih := ih (by omega)
      exact ⟨(mln_x (by omega) (by omega)).trans ih.1, (mln_x (by omega) (by omega)).trans ih.2⟩
theorem mla_4 {a dc : Nat} {j : Nat} (h : 1 ≤ j) : mla M a dc j 4 a = nI 0 ∧ mla M a dc j 5 a = nI 0 := by
  cases j with
  | zero => omega
  | succ j => exact mln_4
theorem mla_ak {a dc : Nat} {j : Nat} (hj : 1 ≤ j) (h : AK0 M a ∨ M 11 a = nI (dc + 1)) : AK0 (mla M a dc j) a := by
  induction j with
  | zero => omega
  | succ j ih =>
    by_cases h1 : j = 0
    · subst h1; exact mln_ak h
    · exact mln_ak (Or.inl (ih (by omega)))
theorem amg_row {d t c k q : Nat} (h1 : c ≤ q) (h2 : q < c + k) : amg V d t c k (100 + d) q = V (1000 + t) q := by
  induction k with
  | zero => omega
  | succ k ih =>
    by_cases hq : q = c + k
    · subst hq; exact (mu_k (by omega)).trans mu_s
    · exact ((mu_k (by omega)).trans (mu_i hq)).trans (ih (by omega))
theorem amg_lo {d t c k q : Nat} (h1 : q < c) : amg V d t c k (100 + d) q = V (100 + d) q := by
  induction k with
  | zero => rfl
  | succ k ih => exact ((mu_k (by omega)).trans (mu_i (by omega))).trans ih
theorem amg_i {d t c k q i : Nat} (h : i ≠ d) (h2 : q ≠ 100 + d) : amg V d t c k q i = V q i := by
  induction k with
  | zero => rfl
  | succ k ih => exact ((mu_i h).trans (mu_k h2)).trans ih
theorem son_v {d : Nat} : son V d 30 d = nI 0 ∧ son V d 31 d = nI 0 ∧ son V d 32 d = -1 ∧ son V d 36 d = nI 0 ∧ son V d 38 d = nI 0 ∧ son V d 39 d = nI 0 ∧ son V d 40 d = nI 0 ∧ son V d 33 d = V 33 d := by
  unfold son sen sfg
  refine ⟨?_, ?_, ?_, ?_, ?_, ?_, ?_, ?_⟩ <;> simp [mu]
theorem SIM_learn {s0 b0 dc pr ac g c2 t : Nat} (h : INV rg pl V M f n) (hs : s0 < 25) (hb : b0 < 20) (hr : rg b0 = true) (hD : DKv V M (20 * s0 + b0) s0 b0 dc pr ac g) (hA : AKv V M (20 * s0 + b0) s0 dc) (hc : c2 ≤ 12) (ht : t < 101) (hp : ∀ j, j < c2 → PR2 (V (1000 + t) j) (M 23 (10 + 2 * j)) (M 23 (11 + 2 * j))) :
    ∃ pr' ac', INV rg pl (sla V (20 * s0 + b0) t dc c2) (mla M (20 * s0 + b0) dc (c2 - dc)) f n ∧ DKv (sla V (20 * s0 + b0) t dc c2) (mla M (20 * s0 + b0) dc (c2 - dc)) (20 * s0 + b0) s0 b0 (mx dc c2) pr' ac' g ∧ AKv (sla V (20 * s0 + b0) t dc c2) (mla M (20 * s0 + b0) dc (c2 - dc)) (20 * s0 + b0) s0 (mx dc c2) := by
  by_cases hl : dc < c2
  · have e1 : sla V (20 * s0 + b0) t dc c2 = son (amg V (20 * s0 + b0) t dc (c2 - dc)) (20 * s0 + b0) := if_pos hl
    have e2 : mx dc c2 = c2 := if_pos hl
    rw [e1, e2]
    obtain ⟨q1, q2, q3, q4, q5, q6⟩ := hD
    obtain ⟨w1, w2, w3, w4, w5, w6, w7, w8⟩ := son_v (V := amg V (20 * s0 + b0) t dc (c2 - dc)) (d := 20 * s0 + b0)
    have hak : AK0 (mla M (20 * s0 + b0) dc (c2 - dc)) (20 * s0 + b0) := by
      refine mla_ak (by omega) ?_
      rcases hA.2 with q | q
      · exact Or.inl q
      · exact Or.inr q.1.2.1
    have hDK : DKv (son (amg V (20 * s0 + b0) t dc (c2 - dc)) (20 * s0 + b0)) (mla M (20 * s0 + b0) dc (c2 - dc)) (20 * s0 + b0) s0 b0 c2 0 0 g := by
      refine ⟨⟨hc, Nat.zero_le _, Nat.zero_le _, q1.2.2.2⟩, ⟨?_, ?_⟩, ⟨?_, w1, w2, ?_⟩, ⟨?_, (mla_4 (by omega)).1, (mla_4 (by omega)).2, ?_⟩, ?_, Or.inl ⟨rfl, w3⟩⟩
      · rw [son_o (by omega), amg_o (by omega) (by omega)]; exact q2.1
      · rw [son_o (by omega), amg_o (by omega) (by omega)]; exact q2.2
      · rw [son_34, amg_34 q3.1]; congr 1; omega
      · rw [w8, amg_o (by omega) (by omega)]; exact q3.2.2.2
      · rw [mla_3 q4.1]; congr 1; omega
      · rw [mla_x _ (by omega) (by omega)]; exact q4.2.2.2
      · intro j hj
        rw [son_o (by omega)]
        by_cases hj2 : j < dc
        · rw [amg_lo hj2, mla_x _ (by omega) (by omega), mla_x _ (by omega) (by omega)]; exact q5 j hj2
        · rw [amg_row (by omega) (by omega), (mla_9 (q := j) _ (by omega) (by omega)).1, (mla_9 (q := j) _ (by omega) (by omega)).2]; exact hp j hj
    have hAK : AKv (son (amg V (20 * s0 + b0) t dc (c2 - dc)) (20 * s0 + b0)) (mla M (20 * s0 + b0) dc (c2 - dc)) (20 * s0 + b0) s0 c2 :=
      ⟨⟨w4.trans hak.1.symm, w5.trans hak.2.1.symm, w6.trans hak.2.2.1.symm, w7.trans hak.2.2.2.symm⟩, Or.inl hak⟩
    refine ⟨0, 0, INV_dsk hs hb hr (fun k i h1 h2 => ?_) (fun k i h1 h2 h3 => mla_x _ (by omega) (by omega)) ⟨c2, 0, 0, g, hDK, hAK⟩ h, hDK, hAK⟩
    rw [son_o (by omega)]
    by_cases h34 : k = 34
    · subst h34; exact amg_i (by omega) (by omega)
    · exact amg_o (by omega) h34
  · have e1 : sla V (20 * s0 + b0) t dc c2 = V := if_neg hl
    have e2 : mx dc c2 = dc := if_neg hl
    have e3 : c2 - dc = 0 := by omega
    rw [e1, e2, e3]
    exact ⟨pr, ac, h, hD, hA⟩
end SLN
