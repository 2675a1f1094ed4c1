/-! STEPS that keep what holds: one desk, the draft, sending, rounds. -/
section STP
variable {rg : Nat → Bool} {pl : Nat → Nat} {V M V' M' : fV} {f n : Nat}
theorem INV_dsk {s1 b1 : Nat} (hs1 : s1 < 25) (hb1 : b1 < 20) (hr1 : rg b1 = true) (hV : ∀ k i, k < 30 ∨ 43 < k ∨ i ≠ 20 * s1 + b1 → k ≠ 100 + (20 * s1 + b1) → V' k i = V k i)
    (hM : ∀ k i, k < 3 ∨ 20 < k ∨ (k ≠ 9 ∧ k ≠ 10 ∧ i ≠ 20 * s1 + b1) ∨ ((k = 9 ∨ k = 10) ∧ (i < 12 * (20 * s1 + b1) ∨ 12 * (20 * s1 + b1) + 12 ≤ i)) → k ≠ 23 → k ≠ 27 → M' k i = M k i) (hD : DSK V' M' (20 * s1 + b1) s1 b1) (h : INV rg pl V M f n) : INV rg pl V' M' f n := by
  obtain ⟨h1, h2, h3, h4⟩ := h
  refine ⟨ROWI_cg (fun k i _ _ _ => hV k i (by omega) (by omega)) (fun k _ _ => hV k 0 (by omega) (by omega)) (fun i j _ => hV _ j (by omega) (by omega)) (fun i => hM 21 i (by omega) (by omega) (by omega)) (fun k hk => hM k 0 (by omega) (by omega) (by omega)) h1,
    DSKI_one hs1 hb1 hr1 (fun k i hk hi => hV k i (by omega) (by omega)) (fun i j _ hi => hV _ j (by omega) (by omega)) (fun k i hk hi => hM k i (by omega) (by omega) (by omega)) (fun k i j hk hj hi => hM k _ (by omega) (by omega) (by omega)) (fun i => hM 2 i (by omega) (by omega) (by omega)) hD h2,
    UPI_cg (hV 59 0 (by omega) (by omega)) (fun i => hM 2 i (by omega) (by omega) (by omega)) h3, REGI_cg (fun k i hk => hV k i (by omega) (by omega)) (fun k i hk => hM k i (by omega) (by omega) (by omega)) h4⟩
/-- only what was thrown is written down -/
theorem INV_27 {v : Int32} (h : INV rg pl V M f n) : INV rg pl V (mu M 27 0 v) f n := by
  obtain ⟨h1, h2, h3, h4⟩ := h
  exact ⟨ROWI_cg (fun _ _ _ _ _ => rfl) (fun _ _ _ => rfl) (fun _ _ _ => rfl) (fun _ => mu_k (by decide)) (fun k hk => mu_k (by omega)) h1, DSKI_row (fun _ _ _ => rfl) (fun k i hk => mu_k (by omega)) h2, UPI_cg rfl (fun i => mu_k (by decide)) h3, REGI_cg (fun _ _ _ => rfl) (fun k i hk => mu_k (by omega)) h4⟩
theorem INV_62 {v : Int32} (h : INV rg pl V M f n) : INV rg pl (mu V 62 0 v) M f n := by
  obtain ⟨h1, h2, h3, h4⟩ := h
  refine ⟨ROWI_cg (fun k i h1 h2 h3 => mu_k (by omega)) (fun k _ _ => mu_k (by omega)) (fun i j _ => mu_k (by omega)) (fun _ => rfl) (fun _ _ => rfl) h1, ?_, UPI_cg (mu_k (by decide)) (fun _ => rfl) h3, REGI_cg (fun k i hk => mu_k (by omega)) (fun _ _ _ => rfl) h4⟩
  obtain ⟨q1, q2, q3⟩ := h2
  exact ⟨fun s0 b0 h1 h2 h3 => DSK_cg (fun k hk => mu_k (by omega)) (fun j => mu_k (by omega)) (fun _ _ => rfl) (fun _ _ => ⟨rfl, rfl⟩) rfl (q1 s0 b0 h1 h2 h3), q2, D500_cg (fun k hk => mu_k (by omega)) q3⟩
theorem INV_dft (hV : ∀ k i, k < 44 ∨ 52 < k ∨ i ≠ 101 → k ≠ 1101 → V' k i = V k i) (h : INV rg pl V M f n) : INV rg pl V' M f n := by
  obtain ⟨h1, h2, h3, h4⟩ := h
  exact ⟨ROWI_cg (fun k i _ _ hi => hV k i (by omega) (by omega)) (fun k _ _ => hV k 0 (by omega) (by omega)) (fun i j hi => hV _ j (by omega) (by omega)) (fun _ => rfl) (fun _ _ => rfl) h1, DSKI_row (fun k i hk => hV k i (by omega) (by omega)) (fun _ _ _ => rfl) h2, UPI_cg (hV 59 0 (by omega) (by omega)) (fun _ => rfl) h3, REGI_cg (fun k i hk => hV k i (by omega) (by omega)) (fun _ _ _ => rfl) h4⟩
theorem INV_row {pl' : Nat → Nat} {f' n' : Nat} (hR : ROWI rg pl' V' M' f' n') (hV : ∀ k i, k < 44 ∨ 59 ≤ k ∧ k < 1000 → V' k i = V k i) (hM : ∀ k i, k ≤ 20 → M' k i = M k i) (h : INV rg pl V M f n) : INV rg pl' V' M' f' n' :=
  ⟨hR, DSKI_row hV hM h.2.1, UPI_cg (hV 59 0 (by omega)) (fun i => hM 2 i (by omega)) h.2.2.1, REGI_cg (fun k i hk => hV k i (by omega)) (fun k i hk => hM k i (by omega)) h.2.2.2⟩
theorem INV_send {a kd fr to b su nu mo c2 : Nat} {sp dy : Int32} (h : INV rg pl V M f n) (hk : LTk rg kd fr to b su nu mo c2) (hD : DRv V M a kd fr b su nu mo c2 sp dy) :
    INV rg pl (snd pl f n c2 V (nI to)) (msn M n a c2 fr b (nI kd) (nI to) (nI su) (nI nu) (nI mo) sp dy) f (nx1 n) :=
  INV_row (ROWI_send h.1 hk hD).1 (fun k i hk => snd_o h.1.1.2.2.2.2 (by omega) (by omega)) (fun k i hk => msn_o (by omega)) h
theorem INV_all {a kd fr b su nu mo c2 : Nat} {sp dy : Int32} (h : INV rg pl V M f n) (hk : ∀ to, to < 25 → LTk rg kd fr to b su nu mo c2) (hD : DRv V M a kd fr b su nu mo c2 sp dy) :
    INV rg pl (sal pl f n c2 V 25) (mal M n a c2 fr b (nI kd) (nI su) (nI nu) (nI mo) sp dy 25) f (m1 (n + 25)) :=
  INV_row (ROWI_all h.1 hk hD 25 (Nat.le_refl _)).1 (fun k i hk => sal_o h.1.1.2.2.2.2 (by omega) (by omega) 25) (fun k i hk => mal_o (by omega) 25) h
theorem swr_v {x1 x2 x3 x4 x5 : Int32} {d nc : Nat} : swr V 101 x1 x2 x3 x4 x5 d nc 44 101 = x1 ∧ swr V 101 x1 x2 x3 x4 x5 d nc 45 101 = x2 ∧ swr V 101 x1 x2 x3 x4 x5 d nc 47 101 = x3 ∧ swr V 101 x1 x2 x3 x4 x5 d nc 48 101 = x4 ∧ swr V 101 x1 x2 x3 x4 x5 d nc 49 101 = x5 ∧ swr V 101 x1 x2 x3 x4 x5 d nc 50 101 = nI 0 ∧ swr V 101 x1 x2 x3 x4 x5 d nc 51 101 = -1 ∧ swr V 101 x1 x2 x3 x4 x5 d nc 52 101 = nI nc := by
  unfold swr
  refine ⟨?_, ?_, ?_, ?_, ?_, ?_, ?_, ?_⟩ <;> (rw [bcm_o (by decide)]; simp [mu])
theorem swr_p {x1 x2 x3 x4 x5 : Int32} {d nc j : Nat} (hj : j < nc) : swr V 101 x1 x2 x3 x4 x5 d nc 1101 j = V (100 + d) j := by
  unfold swr
  rw [show (1101 : Nat) = 1000 + 101 from rfl, bcm_v hj]
  repeat rw [mu_o (by omega)]
/-- the draft as it is written from a desk, with its two last parts -/
theorem DRv_of {a kd fr b su nu mo c2 : Nat} {sp dy k2 : Int32} (hp : ∀ j, j < c2 → PR2 (V (100 + a) j) (M 9 (12 * a + j)) (M 10 (12 * a + j))) (hq : PQ k2 sp dy (kd = 3 ∨ kd = 2 ∧ 0 < mo)) : DRv (mu (mu (swr V 101 (nI kd) (nI fr) (nI b) (nI su) (nI nu) a c2) 50 101 (nI mo)) 51 101 k2) M a kd fr b su nu mo c2 sp dy := by
  obtain ⟨v1, v2, v3, v4, v5, v6, v7, v8⟩ := swr_v (V := V) (x1 := nI kd) (x2 := nI fr) (x3 := nI b) (x4 := nI su) (x5 := nI nu) (d := a) (nc := c2)
  refine ⟨⟨?_, ?_, ?_, ?_, ?_, ?_, ?_⟩, ?_, ?_⟩
  · rw [mu_k (by decide), mu_k (by decide)]; exact v1
  · rw [mu_k (by decide), mu_k (by decide)]; exact v2
  · rw [mu_k (by decide), mu_k (by decide)]; exact v3
  · rw [mu_k (by decide), mu_k (by decide)]; exact v4
  · rw [mu_k (by decide), mu_k (by decide)]; exact v5
  · rw [mu_k (by decide), mu_s]
  · rw [mu_k (by decide), mu_k (by decide)]; exact v8
  · rw [mu_s]; exact hq
  · intro j hj
    rw [mu_k (by decide), mu_k (by decide), swr_p hj]
    exact hp j hj
/-- the same, without 'told' written anew -/
theorem DRv_of0 {a kd fr b su nu c2 : Nat} {sp dy k2 : Int32} (hp : ∀ j, j < c2 → PR2 (V (100 + a) j) (M 9 (12 * a + j)) (M 10 (12 * a + j))) (hq : PQ k2 sp dy (kd = 3 ∨ kd = 2 ∧ 0 < 0)) : DRv (mu (swr V 101 (nI kd) (nI fr) (nI b) (nI su) (nI nu) a c2) 51 101 k2) M a kd fr b su nu 0 c2 sp dy := by
  obtain ⟨v1, v2, v3, v4, v5, v6, v7, v8⟩ := swr_v (V := V) (x1 := nI kd) (x2 := nI fr) (x3 := nI b) (x4 := nI su) (x5 := nI nu) (d := a) (nc := c2)
  refine ⟨⟨?_, ?_, ?_, ?_, ?_, ?_, ?_⟩, ?_, ?_⟩
  · rw [mu_k (by decide)]; exact v1
  · rw [mu_k (by decide)]; exact v2
  · rw [mu_k (by decide)]; exact v3
  · rw [mu_k (by decide)]; exact v4
  · rw [mu_k (by decide)]; exact v5
  · rw [mu_k (by decide)]; exact v6
  · rw [mu_k (by decide)]; exact v8
  · rw [mu_s]; exact hq
  · intro j hj
    rw [mu_k (by decide), swr_p hj]
    exact hp j hj
theorem sen_v {d : Nat} : sen V d 36 d = nI 0 ∧ sen V d 37 d = -1 ∧ sen V d 38 d = nI 0 ∧ sen V d 39 d = nI 0 ∧ sen V d 40 d = nI 0 ∧ sen V d 41 d = nI 0 ∧ sen V d 42 d = nI 0 ∧ sen V d 43 d = -1 := by
  unfold sen sfg
  refine ⟨?_, ?_, ?_, ?_, ?_, ?_, ?_, ?_⟩ <;> simp [mu]
theorem mse_v {a : Nat} : mse M a 11 a = nI 0 ∧ mse M a 14 a = nI 0 ∧ mse M a 15 a = nI 0 ∧ mse M a 16 a = nI 0 := by
  unfold mse
  refine ⟨?_, ?_, ?_, ?_⟩ <;> simp [mu]
theorem DSK_end {a s0 b0 dc pr ac g : Nat} (h : DKv V M a s0 b0 dc pr ac g) : DSK (sen V a) (mse M a) a s0 b0 := by
  obtain ⟨q1, q2, q3, q4, q5, q6⟩ := h
  obtain ⟨e1, e2, e3, e4, e5, e6, e7, e8⟩ := sen_v (V := V) (d := a)
  obtain ⟨m1, m2, m3, m4⟩ := mse_v (M := M) (a := a)
  refine ⟨dc, pr, ac, g, ⟨q1, ?_, ?_, ?_, ?_, ?_⟩, ⟨e1.trans m1.symm, e3.trans m2.symm, e4.trans m3.symm, e5.trans m4.symm⟩, Or.inl ⟨m1, m2, m3, m4⟩⟩
  · rw [sen_o (by omega), sen_o (by omega)]; exact q2
  · rw [sen_o (by omega), sen_o (by omega), sen_o (by omega), sen_o (by omega)]; exact q3
  · rw [mse_o (by omega), mse_o (by omega), mse_o (by omega), mse_o (by omega)]; exact q4
  · intro j hj; rw [sen_o (by omega), mse_o (by omega), mse_o (by omega)]; exact q5 j hj
  · rw [sen_o (by omega), mse_o (by omega), mse_o (by omega)]; exact q6
/-- a round begins: the desk of both -/
theorem DSK_round {a s0 b0 dc pr ac g rf nx : Nat} (h : DKv V M a s0 b0 dc pr ac g) (hd : dc < 12) (h36 : V 36 a = nI (dc + 1)) (h11 : M 11 a = nI (dc + 1)) (h2 : M 2 s0 = nI 0) (hp : PR2 (V 37 a) (M 12 a) (M 13 a)) (h41 : V 41 a = nI rf) (h20 : M 20 a = nI rf) (hrf : rf ≤ 25024) (hn1 : 1 ≤ nx) (hn2 : nx ≤ 25024) :
    DSK (sfg (mu (mu (mu V 33 a (nI nx)) 38 a (nI nx)) 39 a (nI 1)) a) (mr1 M a nx) a s0 b0 := by
  obtain ⟨q1, q2, q3, q4, q5, q6⟩ := h
  have o : ∀ k i, k < 33 ∨ 34 ≤ k ∧ k < 38 ∨ k = 41 ∨ 43 < k → sfg (mu (mu (mu V 33 a (nI nx)) 38 a (nI nx)) 39 a (nI 1)) a k i = V k i := fun k i hk => by
    unfold sfg
    repeat rw [mu_k (by omega)]
  have u : ∀ k i, k < 8 ∨ 9 ≤ k ∧ k < 14 ∨ 18 ≤ k → mr1 M a nx k i = M k i := fun k i hk => by
    unfold mr1
    repeat rw [mu_k (by omega)]
  have w : sfg (mu (mu (mu V 33 a (nI nx)) 38 a (nI nx)) 39 a (nI 1)) a 33 a = nI nx ∧ sfg (mu (mu (mu V 33 a (nI nx)) 38 a (nI nx)) 39 a (nI 1)) a 38 a = nI nx ∧ sfg (mu (mu (mu V 33 a (nI nx)) 38 a (nI nx)) 39 a (nI 1)) a 39 a = nI 1 ∧ sfg (mu (mu (mu V 33 a (nI nx)) 38 a (nI nx)) 39 a (nI 1)) a 40 a = nI 0 ∧ sfg (mu (mu (mu V 33 a (nI nx)) 38 a (nI nx)) 39 a (nI 1)) a 42 a = nI 0 := by
    unfold sfg
    refine ⟨?_, ?_, ?_, ?_, ?_⟩ <;> simp [mu]
  have z : mr1 M a nx 8 a = nI nx ∧ mr1 M a nx 14 a = nI nx ∧ mr1 M a nx 15 a = nI 1 ∧ mr1 M a nx 16 a = nI 0 ∧ mr1 M a nx 17 a = nI 0 := by
    unfold mr1
    refine ⟨?_, ?_, ?_, ?_, ?_⟩ <;> simp [mu]
  obtain ⟨w1, w2, w3, w4, w5⟩ := w
  obtain ⟨z1, z2, z3, z4, z5⟩ := z
  refine ⟨dc, pr, ac, nx, ⟨⟨q1.1, q1.2.1, q1.2.2.1, hn2⟩, ?_, ⟨?_, ?_, ?_, w1⟩, ⟨?_, ?_, ?_, z1⟩, ?_, ?_⟩, ⟨?_, w2.trans z2.symm, w3.trans z3.symm, w4.trans z4.symm⟩, Or.inr ⟨⟨hd, ?_, ?_⟩, ⟨nx, hn1, hn2, z2⟩, ⟨0, by decide, z4⟩, ?_, ⟨rf, hrf, ?_, ?_⟩, Or.inr ⟨z3, 0, Nat.zero_le _, w5, z5, Or.inl rfl⟩⟩⟩
  · rw [o _ _ (by omega), o _ _ (by omega)]; exact q2
  · rw [o _ _ (by omega)]; exact q3.1
  · rw [o _ _ (by omega)]; exact q3.2.1
  · rw [o _ _ (by omega)]; exact q3.2.2.1
  · rw [u _ _ (by omega)]; exact q4.1
  · rw [u _ _ (by omega)]; exact q4.2.1
  · rw [u _ _ (by omega)]; exact q4.2.2.1
  · intro j hj; rw [o _ _ (by omega), u _ _ (by omega), u _ _ (by omega)]; exact q5 j hj
  · rw [o _ _ (by omega), u _ _ (by omega), u _ _ (by omega)]; exact q6
  · rw [o _ _ (by omega), u _ _ (by omega)]; exact h36.trans h11.symm
  · rw [u _ _ (by omega)]; exact h11
  · rw [u _ _ (by omega)]; exact h2
  · rw [o _ _ (by omega), u _ _ (by omega), u _ _ (by omega)]; exact hp
  · rw [o _ _ (by omega)]; exact h41
  · rw [u _ _ (by omega)]; exact h20
theorem nxt_pos {ab sp nx : Nat} (h : nxt ab sp = nx) (h0 : ¬ nx = 0) : 1 ≤ nx := by omega
end STP
