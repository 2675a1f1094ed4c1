/-! ROUNDS of class and model go alike. -/
section SRD
variable {rg : Nat → Bool} {pl : Nat → Nat} {V M V' M' : fV} {f n : Nat}
theorem DKv_cg {a s0 b0 dc pr ac g : Nat} (hV : ∀ k, 30 ≤ k ∧ k ≤ 34 ∨ k = 63 ∨ k = 64 → V' k a = V k a) (hP : ∀ j, V' (100 + a) j = V (100 + a) j) (hM : ∀ k i, 3 ≤ k ∧ k ≤ 10 → M' k i = M k i) (h : DKv V M a s0 b0 dc pr ac g) : DKv V' M' a s0 b0 dc pr ac g := by
  obtain ⟨q1, q2, q3, q4, q5, q6⟩ := h
  refine ⟨q1, ?_, ?_, ?_, ?_, ?_⟩
  · rw [hV 63 (by decide), hV 64 (by decide)]; exact q2
  · rw [hV 34 (by decide), hV 30 (by decide), hV 31 (by decide), hV 33 (by decide)]; exact q3
  · rw [hM 3 a (by decide), hM 4 a (by decide), hM 5 a (by decide), hM 8 a (by decide)]; exact q4
  · intro j hj; rw [hP, hM 9 _ (by decide), hM 10 _ (by decide)]; exact q5 j hj
  · rw [hV 32 (by decide), hM 6 a (by decide), hM 7 a (by decide)]; exact q6
/-- the letters of a round: 25 of one kind from a desk -/
theorem SIM_toAll {s0 b0 dc pr ac g kd su nu : Nat} {k2 sp dy : Int32} (h : INV rg pl V M f n) (hD : DKv V M (20 * s0 + b0) s0 b0 dc pr ac g) (h36 : V 36 (20 * s0 + b0) = nI su) (h38 : V 38 (20 * s0 + b0) = nI nu) (hk : ∀ to, to < 25 → LTk rg kd s0 to b0 su nu 0 dc) (hq : PQ k2 sp dy (kd = 3 ∨ kd = 2 ∧ 0 < 0)) :
    INV rg pl (ssa pl f n dc V (20 * s0 + b0) (nI kd) k2) (mal M n (20 * s0 + b0) dc s0 b0 (nI kd) (nI su) (nI nu) (nI 0) sp dy 25) f (m1 (n + 25)) := by
  have e : drf V (20 * s0 + b0) dc (nI kd) k2 = mu (swr V 101 (nI kd) (nI s0) (nI b0) (nI su) (nI nu) (20 * s0 + b0) dc) 51 101 k2 := by
    unfold drf
    rw [hD.2.1.1, hD.2.1.2, h36, h38]
  unfold ssa
  rw [e]
  exact INV_all (INV_dft (fun k i h1 h2 => (mu_o (by omega)).trans (swr_o (by omega) (by omega))) h) hk (DRv_of0 hD.2.2.2.2.1 hq)
theorem SIM_round {V0 M0 : fV} {s0 b0 dc pr ac g rf nx : Nat} (h0 : INV rg pl V0 M0 f n) (hs : s0 < 25) (hb : b0 < 20) (hr : rg b0 = true) (hV : ∀ k i, k < 30 ∨ 43 < k ∨ i ≠ 20 * s0 + b0 → V k i = V0 k i) (hM : ∀ k i, k < 11 ∨ 20 < k ∨ i ≠ 20 * s0 + b0 → k ≠ 27 → M k i = M0 k i)
    (hD : DKv V M (20 * s0 + b0) s0 b0 dc pr ac g) (hd : dc < 12) (h36 : V 36 (20 * s0 + b0) = nI (dc + 1)) (h11 : M 11 (20 * s0 + b0) = nI (dc + 1)) (h2 : M 2 s0 = nI 0) (hp : PR2 (V 37 (20 * s0 + b0)) (M 12 (20 * s0 + b0)) (M 13 (20 * s0 + b0))) (h41 : V 41 (20 * s0 + b0) = nI rf) (h20 : M 20 (20 * s0 + b0) = nI rf) (hrf : rf ≤ 25024) (hnx : nx ≤ 25024) :
    INV rg pl (ssr pl f n dc V (20 * s0 + b0) nx) (mrd M n (20 * s0 + b0) dc s0 b0 nx) f (if nx = 0 then n else m1 (n + 25)) := by
  unfold ssr mrd
  by_cases hz : nx = 0
  · rw [if_pos hz, if_pos hz, if_pos hz]
    exact INV_dsk hs hb hr (fun k i h1 h2 => (sen_o (by omega)).trans (hV k i (by omega))) (fun k i h1 h2 h3 => (mse_o (by omega)).trans (hM k i (by omega) h3)) (DSK_end hD) h0
  · rw [if_neg hz, if_neg hz, if_neg hz]
    have o : ∀ k i, k < 30 ∨ 43 < k ∨ i ≠ 20 * s0 + b0 ∨ k = 36 ∨ k = 30 ∨ k = 31 ∨ k = 32 ∨ k = 34 → sfg (mu (mu (mu V 33 (20 * s0 + b0) (nI nx)) 38 (20 * s0 + b0) (nI nx)) 39 (20 * s0 + b0) (nI 1)) (20 * s0 + b0) k i = V k i := fun k i hk => by
      unfold sfg
      repeat rw [mu_o (by omega)]
    have u : ∀ k i, k < 8 ∨ 9 ≤ k ∧ k < 14 ∨ 17 < k ∨ i ≠ 20 * s0 + b0 → mr1 M (20 * s0 + b0) nx k i = M k i := fun k i hk => by
      unfold mr1
      repeat rw [mu_o (by omega)]
    have hI : INV rg pl (sfg (mu (mu (mu V 33 (20 * s0 + b0) (nI nx)) 38 (20 * s0 + b0) (nI nx)) 39 (20 * s0 + b0) (nI 1)) (20 * s0 + b0)) (mr1 M (20 * s0 + b0) nx) f n :=
      INV_dsk hs hb hr (fun k i h1 h2 => (o k i (by omega)).trans (hV k i (by omega))) (fun k i h1 h2 h3 => (u k i (by omega)).trans (hM k i (by omega) h3)) (DSK_round hD hd h36 h11 h2 hp h41 h20 hrf (by omega) hnx) h0
    have hD2 : DKv (sfg (mu (mu (mu V 33 (20 * s0 + b0) (nI nx)) 38 (20 * s0 + b0) (nI nx)) 39 (20 * s0 + b0) (nI 1)) (20 * s0 + b0)) (mr1 M (20 * s0 + b0) nx) (20 * s0 + b0) s0 b0 dc pr ac nx := by
      obtain ⟨q1, q2, q3, q4, q5, q6⟩ := hD
      refine ⟨⟨q1.1, q1.2.1, q1.2.2.1, hnx⟩, ?_, ⟨?_, ?_, ?_, ?_⟩, ⟨?_, ?_, ?_, ?_⟩, ?_, ?_⟩
      · rw [o _ _ (by omega), o _ _ (by omega)]; exact q2
      · rw [o _ _ (by omega)]; exact q3.1
      · rw [o _ _ (by omega)]; exact q3.2.1
      · rw [o _ _ (by omega)]; exact q3.2.2.1
      · unfold sfg; simp [mu]
      · rw [u _ _ (by omega)]; exact q4.1
      · rw [u _ _ (by omega)]; exact q4.2.1
      · rw [u _ _ (by omega)]; exact q4.2.2.1
      · unfold mr1; simp [mu]
      · intro j hj; rw [o _ _ (by omega), u _ _ (by omega), u _ _ (by omega)]; exact q5 j hj
      · rw [o _ _ (by omega), u _ _ (by omega), u _ _ (by omega)]; exact q6
    rw [h11]
    exact SIM_toAll hI hD2 ((o 36 _ (by omega)).trans h36) (by unfold sfg; simp [mu]) (fun to ht => ⟨by decide, by decide, hs, ht, hb, by omega, hnx, Nat.zero_le _, by omega, fun _ => hr, fun _ => rfl, fun e => absurd e (by decide), fun e => absurd (hr.symm.trans e) (by decide)⟩) (Or.inr ⟨by decide, rfl, rfl, rfl⟩)
end SRD
