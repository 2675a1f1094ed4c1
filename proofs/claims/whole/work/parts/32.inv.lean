/-! WHAT HOLDS between class and model: letters and their row. -/
def PR2 (v sp dy : Int32) : Prop := ∃ s0 d0 : Nat, s0 < 25 ∧ d0 ≤ 100000 ∧ sp = nI s0 ∧ dy = nI d0 ∧ v = nI (d0 * 25 + s0)
def PQ (v sp dy : Int32) (must : Prop) : Prop := PR2 v sp dy ∨ (¬ must ∧ v = -1 ∧ sp = -1 ∧ dy = -1)
/-- a letter's numbers -/
def LTk (rg : Nat → Bool) (kd fr to b su nu mo c2 : Nat) : Prop := 1 ≤ kd ∧ kd ≤ 6 ∧ fr < 25 ∧ to < 25 ∧ b < 20 ∧ su ≤ 13 ∧ nu ≤ 25024 ∧ mo ≤ 25024 ∧ c2 ≤ 12 ∧ (kd ≠ 6 → rg b = true) ∧ (kd = 1 ∨ kd = 3 → su = c2 + 1) ∧ (kd = 3 → 1 ≤ nu) ∧ (rg b = false → c2 = 0)
def LTv (rg : Nat → Bool) (V M : fV) (t k kd fr to b su nu mo c2 : Nat) : Prop :=
  LTk rg kd fr to b su nu mo c2 ∧ (V 44 t = nI kd ∧ V 45 t = nI fr ∧ V 46 t = nI to ∧ V 47 t = nI b ∧ V 48 t = nI su ∧ V 49 t = nI nu ∧ V 50 t = nI mo ∧ V 52 t = nI c2) ∧
  (M 21 (k + 0) = nI kd ∧ M 21 (k + 1) = nI fr ∧ M 21 (k + 2) = nI to ∧ M 21 (k + 3) = nI b ∧ M 21 (k + 4) = nI su ∧ M 21 (k + 5) = nI nu ∧ M 21 (k + 6) = nI mo ∧ M 21 (k + 9) = nI c2) ∧
  PQ (V 51 t) (M 21 (k + 7)) (M 21 (k + 8)) (kd = 3 ∨ kd = 2 ∧ 0 < mo) ∧ ∀ j, j < c2 → PR2 (V (1000 + t) j) (M 21 (k + (10 + 2 * j))) (M 21 (k + (11 + 2 * j)))
def LTR (rg : Nat → Bool) (V M : fV) (t k : Nat) : Prop := ∃ kd fr to b su nu mo c2, LTv rg V M t k kd fr to b su nu mo c2
theorem LTv_move {rg : Nat → Bool} {V M V' M' : fV} {t k t' k' kd fr to b su nu mo c2 : Nat} (h : LTv rg V M t k kd fr to b su nu mo c2) (hV : ∀ q, 44 ≤ q → q ≤ 52 → V' q t' = V q t) (hP : ∀ j, j < c2 → V' (1000 + t') j = V (1000 + t) j) (hM : ∀ j, j < 34 → M' 21 (k' + j) = M 21 (k + j)) : LTv rg V' M' t' k' kd fr to b su nu mo c2 := by
  obtain ⟨h0, ⟨a1, a2, a3, a4, a5, a6, a7, a8⟩, ⟨b1, b2, b3, b4, b5, b6, b7, b8⟩, h3, h4⟩ := h
  have hc2 : c2 ≤ 12 := h0.2.2.2.2.2.2.2.2.1
  refine ⟨h0, ⟨(hV 44 (by decide) (by decide)).trans a1, (hV 45 (by decide) (by decide)).trans a2, (hV 46 (by decide) (by decide)).trans a3, (hV 47 (by decide) (by decide)).trans a4, (hV 48 (by decide) (by decide)).trans a5, (hV 49 (by decide) (by decide)).trans a6, (hV 50 (by decide) (by decide)).trans a7, (hV 52 (by decide) (by decide)).trans a8⟩,
    ⟨(hM 0 (by decide)).trans b1, (hM 1 (by decide)).trans b2, (hM 2 (by decide)).trans b3, (hM 3 (by decide)).trans b4, (hM 4 (by decide)).trans b5, (hM 5 (by decide)).trans b6, (hM 6 (by decide)).trans b7, (hM 9 (by decide)).trans b8⟩, ?_, fun j hj => ?_⟩
  · rw [hV 51 (by decide) (by decide), hM 7 (by decide), hM 8 (by decide)]; exact h3
  · rw [hP j hj, hM (10 + 2 * j) (by omega), hM (11 + 2 * j) (by omega)]; exact h4 j hj
def INJ (pl : Nat → Nat) : Prop := ∀ q q', q ≤ 100 → q' ≤ 100 → pl q = pl q' → q = q'
def TOT (V M : fV) : Prop := V 56 0 = M 24 0 ∧ V 57 0 = M 25 0 ∧ V 58 0 = M 26 0
def ROWI (rg : Nat → Bool) (pl : Nat → Nat) (V M : fV) (f n : Nat) : Prop := RW pl V f n ∧ M 22 0 = nI n ∧ INJ pl ∧ TOT V M ∧ ∀ i, i < n → LTR rg V M (pl ((f + i) % 100 + 1)) (34 * i)
theorem bcm_v {V : fV} {t q n j : Nat} (h : j < n) : bcm V t q n t j = V q j := by
  induction n with
  | zero => omega
  | succ n ih =>
    by_cases h1 : j = n
    · subst h1; exact mu_s
    · exact (mu_i h1).trans (ih (by omega))
theorem slb_v {V : fV} {t q nc k : Nat} (ht : t < 102) (h1 : 44 ≤ k) (h2 : k ≤ 51) : slb V t q nc k t = V k q := by
  unfold slb
  rw [bcm_o (by omega), mu_k (by omega)]
  have : k = 44 ∨ k = 45 ∨ k = 46 ∨ k = 47 ∨ k = 48 ∨ k = 49 ∨ k = 50 ∨ k = 51 := by omega
  rcases this with rfl | rfl | rfl | rfl | rfl | rfl | rfl | rfl <;> simp [mu]
theorem slb_52 {V : fV} {t q nc : Nat} (ht : t < 102) : slb V t q nc 52 t = nI nc := by
  unfold slb
  rw [bcm_o (by omega), mu_s]
theorem slb_p {V : fV} {t q nc j : Nat} (hj : j < nc) : slb V t q nc (1000 + t) j = V (1000 + q) j := by
  unfold slb
  rw [bcm_v hj, mu_k (by omega)]
  repeat rw [mu_k (by omega)]
theorem cpl_lo {M : fV} {a q n i : Nat} (h : i < q + 10) : cpl M a q n 21 i = M 21 i := by
  induction n with
  | zero => rfl
  | succ n ih => exact ((mu_i (by omega)).trans (mu_i (by omega))).trans ih
theorem cpl_9 {M : fV} {a q n j : Nat} (h : j < n) : cpl M a q n 21 (q + (10 + 2 * j)) = M 9 (12 * a + j) := by
  induction n with
  | zero => omega
  | succ n ih =>
    by_cases h1 : j = n
    · subst h1
      exact (mu_i (by omega)).trans ((congrArg (mu (cpl M a q j) 21 (q + 10 + 2 * j) (M 9 (12 * a + j)) 21) (Nat.add_assoc q 10 (2 * j)).symm).trans mu_s)
    · exact ((mu_i (by omega)).trans (mu_i (by omega))).trans (ih (by omega))
theorem cpl_10 {M : fV} {a q n j : Nat} (h : j < n) : cpl M a q n 21 (q + (11 + 2 * j)) = M 10 (12 * a + j) := by
  induction n with
  | zero => omega
  | succ n ih =>
    by_cases h1 : j = n
    · subst h1
      exact (congrArg (mu (mu (cpl M a q j) 21 (q + 10 + 2 * j) (M 9 (12 * a + j))) 21 (q + 11 + 2 * j) (M 10 (12 * a + j)) 21) (Nat.add_assoc q 11 (2 * j)).symm).trans mu_s
    · exact ((mu_i (by omega)).trans (mu_i (by omega))).trans (ih (by omega))
theorem mhd_lo {M : fV} {n fr b0 dc : Nat} {kk to su nu mo sp dy : Int32} {i : Nat} (h : i < 34 * n) : mhd M n fr b0 dc kk to su nu mo sp dy 21 i = M 21 i := by
  unfold mhd
  repeat rw [mu_o (by omega)]
theorem mhd_v {M : fV} {n fr b0 dc : Nat} {kk to su nu mo sp dy : Int32} :
    mhd M n fr b0 dc kk to su nu mo sp dy 21 (34 * n + 0) = kk ∧ mhd M n fr b0 dc kk to su nu mo sp dy 21 (34 * n + 1) = nI fr ∧ mhd M n fr b0 dc kk to su nu mo sp dy 21 (34 * n + 2) = to ∧ mhd M n fr b0 dc kk to su nu mo sp dy 21 (34 * n + 3) = nI b0 ∧ mhd M n fr b0 dc kk to su nu mo sp dy 21 (34 * n + 4) = su ∧ mhd M n fr b0 dc kk to su nu mo sp dy 21 (34 * n + 5) = nu ∧ mhd M n fr b0 dc kk to su nu mo sp dy 21 (34 * n + 6) = mo ∧ mhd M n fr b0 dc kk to su nu mo sp dy 21 (34 * n + 7) = sp ∧ mhd M n fr b0 dc kk to su nu mo sp dy 21 (34 * n + 8) = dy ∧ mhd M n fr b0 dc kk to su nu mo sp dy 21 (34 * n + 9) = nI dc := by
  unfold mhd
  refine ⟨?_, ?_, ?_, ?_, ?_, ?_, ?_, ?_, ?_, ?_⟩ <;> simp [mu]
theorem msn_lo {M : fV} {n a dc fr b0 : Nat} {kk to su nu mo sp dy : Int32} {i : Nat} (h : i < 34 * n) : msn M n a dc fr b0 kk to su nu mo sp dy 21 i = M 21 i := by
  unfold msn
  split
  · rw [mu_k (by decide), mu_k (by decide)]
  · rw [mu_k (by decide), cpl_lo (by omega), mhd_lo h]
/-- the draft, as it will be sent -/
def DRv (V M : fV) (a kd fr b su nu mo c2 : Nat) (sp dy : Int32) : Prop :=
  (V 44 101 = nI kd ∧ V 45 101 = nI fr ∧ V 47 101 = nI b ∧ V 48 101 = nI su ∧ V 49 101 = nI nu ∧ V 50 101 = nI mo ∧ V 52 101 = nI c2) ∧ PQ (V 51 101) sp dy (kd = 3 ∨ kd = 2 ∧ 0 < mo) ∧ ∀ j, j < c2 → PR2 (V 1101 j) (M 9 (12 * a + j)) (M 10 (12 * a + j))
theorem ROWI_send {rg : Nat → Bool} {pl : Nat → Nat} {V M : fV} {f n a kd fr to b su nu mo c2 : Nat} {sp dy : Int32} (h : ROWI rg pl V M f n) (hk : LTk rg kd fr to b su nu mo c2) (hD : DRv V M a kd fr b su nu mo c2 sp dy) :
    ROWI rg pl (snd pl f n c2 V (nI to)) (msn M n a c2 fr b (nI kd) (nI to) (nI su) (nI nu) (nI mo) sp dy) f (nx1 n) ∧ DRv (snd pl f n c2 V (nI to)) (msn M n a c2 fr b (nI kd) (nI to) (nI su) (nI nu) (nI mo) sp dy) a kd fr b su nu mo c2 sp dy := by
  obtain ⟨hrw, h22, hinj, ⟨t1, t2, t3⟩, hL⟩ := h
  obtain ⟨hf, hf2, hn, hn2, hpl⟩ := id hrw
  obtain ⟨⟨d1, d2, d3, d4, d5, d6, d7⟩, d8, d9⟩ := id hD
  have hP101 : ∀ j, snd pl f n c2 V (nI to) 1101 j = V 1101 j := fun j => by
    unfold snd
    split
    · have := hpl ((f + n) % 100 + 1) (by omega)
      rw [mu_k (by decide), slb_o (by omega) (by omega), mu_k (by decide), mu_k (by decide)]
    · rw [mu_k (by decide), mu_k (by decide)]
  refine ⟨⟨snd_RW hrw, msn_22 h22 hn2, hinj, ?_, ?_⟩, ⟨(snd_d hpl (by decide)).trans d1, (snd_d hpl (by decide)).trans d2, (snd_d hpl (by decide)).trans d3, (snd_d hpl (by decide)).trans d4, (snd_d hpl (by decide)).trans d5, (snd_d hpl (by decide)).trans d6, (snd_d hpl (by decide)).trans d7⟩, ?_, ?_⟩
  · by_cases h1 : n < 100
    · unfold snd msn
      rw [if_pos h1, if_neg (by omega)]
      have := hpl ((f + n) % 100 + 1) (by omega)
      refine ⟨?_, ?_, ?_⟩
      · rw [mu_k (by decide), slb_o (by omega) (by omega), mu_k (by decide), mu_k (by decide), mu_k (by decide), cpl_o (by decide), mhd_o (by decide) (by decide)]; exact t1
      · rw [mu_k (by decide), slb_o (by omega) (by omega), mu_k (by decide), mu_k (by decide), mu_k (by decide), cpl_o (by decide), mhd_o (by decide) (by decide)]; exact t2
      · rw [mu_k (by decide), slb_o (by omega) (by omega), mu_k (by decide), mu_s, mu_k (by decide), cpl_o (by decide), t3]
        unfold mhd
        rw [mu_k (by omega), mu_k (by omega), mu_k (by omega), mu_k (by omega), mu_k (by omega), mu_k (by omega), mu_k (by omega), mu_k (by omega), mu_k (by omega), mu_k (by omega), mu_s]
    · unfold snd msn
      rw [if_neg h1, if_pos (by omega)]
      refine ⟨?_, ?_, ?_⟩
      · rw [mu_s, mu_s, t1]
      · rw [mu_k (by decide), mu_k (by decide), mu_k (by decide), mu_k (by decide)]; exact t2
      · rw [mu_k (by decide), mu_s, mu_k (by decide), mu_s, t3]
  · intro i hi
    by_cases h1 : n < 100
    · have hLx := hpl ((f + n) % 100 + 1) (by omega)
      have hnx : nx1 n = n + 1 := if_pos h1
      rw [hnx] at hi
      by_cases hin : i < n
      · have hti := hpl ((f + i) % 100 + 1) (by omega)
        have hne : pl ((f + i) % 100 + 1) ≠ pl ((f + n) % 100 + 1) := fun e => by
          have := hinj _ _ (by omega) (by omega) e
          omega
        obtain ⟨kd', fr', to', b', su', nu', mo', c2', hv⟩ := hL i hin
        refine ⟨kd', fr', to', b', su', nu', mo', c2', LTv_move hv (fun q q1 q2 => ?_) (fun j hj => ?_) (fun j hj => msn_lo (by omega))⟩
        · unfold snd
          rw [if_pos h1, mu_k (by omega), slb_o (by omega) (by omega), mu_o (by omega), mu_o (by omega)]
        · unfold snd
          rw [if_pos h1, mu_k (by omega), slb_o (by omega) (by omega), mu_o (by omega), mu_o (by omega)]
      · obtain rfl : i = n := by omega
        refine ⟨kd, fr, to, b, su, nu, mo, c2, hk, ?_, ?_, ?_, ?_⟩
        · unfold snd
          rw [if_pos h1]
          refine ⟨?_, ?_, ?_, ?_, ?_, ?_, ?_, ?_⟩
          · rw [mu_k (by decide), slb_v (by omega) (by decide) (by decide), mu_k (by decide), mu_k (by decide)]; exact d1
          · rw [mu_k (by decide), slb_v (by omega) (by decide) (by decide), mu_k (by decide), mu_k (by decide)]; exact d2
          · rw [mu_k (by decide), slb_v (by omega) (by decide) (by decide), mu_s]
          · rw [mu_k (by decide), slb_v (by omega) (by decide) (by decide), mu_k (by decide), mu_k (by decide)]; exact d3
          · rw [mu_k (by decide), slb_v (by omega) (by decide) (by decide), mu_k (by decide), mu_k (by decide)]; exact d4
          · rw [mu_k (by decide), slb_v (by omega) (by decide) (by decide), mu_k (by decide), mu_k (by decide)]; exact d5
          · rw [mu_k (by decide), slb_v (by omega) (by decide) (by decide), mu_k (by decide), mu_k (by decide)]; exact d6
          · rw [mu_k (by decide), slb_52 (by omega)]
        · unfold msn
          rw [if_neg (by omega)]
          obtain ⟨v0, v1, v2, v3, v4, v5, v6, v7, v8, v9⟩ := mhd_v (M := M) (n := i) (fr := fr) (b0 := b) (dc := c2) (kk := nI kd) (to := nI to) (su := nI su) (nu := nI nu) (mo := nI mo) (sp := sp) (dy := dy)
          refine ⟨?_, ?_, ?_, ?_, ?_, ?_, ?_, ?_⟩
          · rw [mu_k (by decide), cpl_lo (by omega)]; exact v0
          · rw [mu_k (by decide), cpl_lo (by omega)]; exact v1
          · rw [mu_k (by decide), cpl_lo (by omega)]; exact v2
          · rw [mu_k (by decide), cpl_lo (by omega)]; exact v3
          · rw [mu_k (by decide), cpl_lo (by omega)]; exact v4
          · rw [mu_k (by decide), cpl_lo (by omega)]; exact v5
          · rw [mu_k (by decide), cpl_lo (by omega)]; exact v6
          · rw [mu_k (by decide), cpl_lo (by omega)]; exact v9
        · unfold snd msn
          rw [if_pos h1, if_neg (by omega)]
          obtain ⟨v0, v1, v2, v3, v4, v5, v6, v7, v8, v9⟩ := mhd_v (M := M) (n := i) (fr := fr) (b0 := b) (dc := c2) (kk := nI kd) (to := nI to) (su := nI su) (nu := nI nu) (mo := nI mo) (sp := sp) (dy := dy)
          rw [mu_k (by decide), slb_v (by omega) (by decide) (by decide), mu_k (by decide), mu_k (by decide), mu_k (by decide), cpl_lo (by omega), mu_k (by decide), cpl_lo (by omega), v7, v8]
          exact d8
        · intro j hj
          unfold snd msn
          rw [if_pos h1, if_neg (by omega), mu_k (by omega), slb_p hj, mu_k (by decide), mu_k (by decide), mu_k (by decide), cpl_9 hj, mu_k (by decide), cpl_10 hj, mhd_o (by decide) (by decide), mhd_o (by decide) (by decide)]
          exact d9 j hj
    · have hnx : nx1 n = n := if_neg h1
      rw [hnx] at hi
      obtain ⟨kd', fr', to', b', su', nu', mo', c2', hv⟩ := hL i hi
      refine ⟨kd', fr', to', b', su', nu', mo', c2', LTv_move hv (fun q q1 q2 => ?_) (fun j hj => ?_) (fun j hj => msn_lo (by omega))⟩
      · unfold snd
        rw [if_neg h1, mu_k (by omega), mu_k (by omega)]
      · unfold snd
        rw [if_neg h1, mu_k (by omega), mu_k (by omega)]
  · rw [snd_d hpl (by decide)]; exact d8
  · intro j hj
    rw [hP101, msn_o (by decide), msn_o (by decide)]; exact d9 j hj
theorem ROWI_all {rg : Nat → Bool} {pl : Nat → Nat} {V M : fV} {f n a kd fr b su nu mo c2 : Nat} {sp dy : Int32} (h : ROWI rg pl V M f n) (hk : ∀ to, to < 25 → LTk rg kd fr to b su nu mo c2) (hD : DRv V M a kd fr b su nu mo c2 sp dy) (j : Nat) (hj : j ≤ 25) :
    ROWI rg pl (sal pl f n c2 V j) (mal M n a c2 fr b (nI kd) (nI su) (nI nu) (nI mo) sp dy j) f (m1 (n + j)) ∧ DRv (sal pl f n c2 V j) (mal M n a c2 fr b (nI kd) (nI su) (nI nu) (nI mo) sp dy j) a kd fr b su nu mo c2 sp dy := by
  induction j with
  | zero => rw [Nat.add_zero, m1_le h.1.2.2.2.1]; exact ⟨h, hD⟩
  | succ j ih =>
    obtain ⟨i1, i2⟩ := ih (by omega)
    have := ROWI_send i1 (hk j (by omega)) i2
    rw [nx1_m1] at this
    exact this
