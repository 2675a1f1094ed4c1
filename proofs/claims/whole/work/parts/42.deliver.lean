/-! DELIVERING: one letter, and many. -/
section SDL
variable {rg : Nat → Bool} {pl : Nat → Nat} {V M V' M' : fV} {f n : Nat}
/-- a letter's facts, and the desk it is for -/
theorem INV_letter {i : Nat} (h : INV rg pl V M f n) (hi : i < n) : ∃ kd fr s0 b0 su nu mo c2 dc, LTv rg V M (pl ((f + i) % 100 + 1)) (34 * i) kd fr s0 b0 su nu mo c2 ∧ V 34 (dx rg s0 b0) = nI dc ∧ dc ≤ 12 ∧ M 3 (20 * s0 + b0) = nI dc ∧ (¬ V 39 (dx rg s0 b0) = 0 → dc < 12) := by
  obtain ⟨kd, fr, s0, b0, su, nu, mo, c2, hv⟩ := h.1.2.2.2.2 i hi
  obtain ⟨k1, k2, k3, k4, k5, -⟩ := id hv.1
  cases hrg : rg b0 with
  | false =>
    have hdx : dx rg s0 b0 = 500 := if_neg (by rw [hrg]; decide)
    have h5 := h.2.1.2.2
    refine ⟨kd, fr, s0, b0, su, nu, mo, c2, 0, hv, ?_, by decide, (h.2.1.2.1 s0 b0 k4 k5 hrg).1.1, fun _ => by decide⟩
    rw [hdx]; exact h5.1
  | true =>
    have hdx : dx rg s0 b0 = 20 * s0 + b0 := if_pos hrg
    obtain ⟨dc, pr, ac, g, hD, hA⟩ := h.2.1.1 s0 b0 k4 k5 hrg
    refine ⟨kd, fr, s0, b0, su, nu, mo, c2, dc, hv, ?_, hD.1.1, hD.2.2.2.1.1, ?_⟩
    · rw [hdx]; exact hD.2.2.1.1
    · rw [hdx, hA.1.2.2.1]
      intro z
      rcases hA.2 with q | q
      · exact absurd (q.2.2.1.trans nI_0) z
      · exact q.1.1
theorem LTv_kd {t k kd fr s0 b0 su nu mo c2 : Nat} (h : LTv rg V M t k kd fr s0 b0 su nu mo c2) : 1 ≤ kd ∧ kd < 7 ∧ s0 < 25 ∧ b0 < 20 ∧ c2 ≤ 12 ∧ fr < 25 := by
  obtain ⟨k1, k2, k3, k4, k5, k6, k7, k8, k9, -⟩ := h.1
  omega
theorem mho_eq {i a dc c2 kd s0 b0 : Nat} : mho M i n a dc c2 kd s0 b0 = mhn (mtk M i n) (n - 1) a dc c2 kd s0 b0 := by
  unfold mho mhn
  rw [mtk_o (by decide), mtk_o (by decide)]
theorem INV_take {i : Nat} (h : INV rg pl V M f n) (hi : i < n) : INV rg (tkp pl f i) (mu (mu V 54 0 (nI ((f + 1) % 100))) 55 0 (nI (n - 1))) (mtk M i n) ((f + 1) % 100) (n - 1) :=
  INV_row (ROWI_take h.1 hi) (fun k i hk => (mu_k (by omega)).trans (mu_k (by omega))) (fun k i hk => mtk_o (by omega)) h
/-- the letter that was taken is in hand -/
theorem HND_take {i kd fr s0 b0 su nu mo c2 : Nat} (h : LTv rg V M (pl ((f + i) % 100 + 1)) (34 * i) kd fr s0 b0 su nu mo c2) : HND rg (mu (mu V 54 0 (nI ((f + 1) % 100))) 55 0 (nI (n - 1))) (mtk M i n) (pl ((f + i) % 100 + 1)) kd fr s0 b0 su nu mo c2 :=
  LTv_move h (fun q q1 q2 => (mu_k (by omega)).trans (mu_k (by omega))) (fun j hj => (mu_k (by omega)).trans (mu_k (by omega))) (fun j hj => by
    show mtk M i n 23 (0 + j) = M 21 (34 * i + j)
    rw [Nat.zero_add, mtk_23 hj])
theorem SIM_deliver {i kd fr s0 b0 su nu mo c2 dc : Nat} (h : INV rg pl V M f n) (hi : i < n) (hv : LTv rg V M (pl ((f + i) % 100 + 1)) (34 * i) kd fr s0 b0 su nu mo c2) (hC : V 34 (dx rg s0 b0) = nI dc) (hd : dc ≤ 12) (hM3 : M 3 (20 * s0 + b0) = nI dc) :
    (∃ n', INV rg (tkp pl f i) (shoV (tkp pl f i) ((f + 1) % 100) (n - 1) dc c2 (mu (mu V 54 0 (nI ((f + 1) % 100))) 55 0 (nI (n - 1))) (dx rg s0 b0) (pl ((f + i) % 100 + 1)) kd s0) (mho M i n (20 * s0 + b0) dc c2 kd s0 b0) ((f + 1) % 100) n') ∧
    mho M i n (20 * s0 + b0) dc c2 kd s0 b0 26 0 = M 26 0 + shoR dc c2 (mu (mu V 54 0 (nI ((f + 1) % 100))) 55 0 (nI (n - 1))) (dx rg s0 b0) (pl ((f + i) % 100 + 1)) kd s0 := by
  have hn2 := h.1.1.2.2.2.1
  have hpl := h.1.1.2.2.2.2
  obtain ⟨-, r1, r2⟩ := SIM_hand (INV_take h hi) (HND_take hv) (hpl _ (by omega)) ((mu_k (by decide)).trans ((mu_k (by decide)).trans hC)) hd ((mtk_o (by decide)).trans hM3) hd
  rw [mho_eq]
  refine ⟨r1, r2.trans ?_⟩
  rw [mtk_o (by decide)]
/-- the model learns no more than twelve -/
theorem h12_of {i kd fr s0 b0 su nu mo c2 dc : Nat} (h : INV rg pl V M f n) (hi : i < n) (hv : LTv rg V M (pl ((f + i) % 100 + 1)) (34 * i) kd fr s0 b0 su nu mo c2) (hM3 : M 3 (20 * s0 + b0) = nI dc) (hd : dc ≤ 12) : kd = 4 → ¬ mla (mtk M i n) (20 * s0 + b0) dc (c2 - dc) 11 (20 * s0 + b0) = 0 → mx dc c2 < 12 := by
  intro hk4 hne
  obtain ⟨k1, k2, k3, k4, k5, k6, k7, k8, k9, k10, -⟩ := id hv.1
  have hrg := k10 (by omega)
  have hpl := h.1.1.2.2.2.2
  have hn2 := h.1.1.2.2.2.1
  have h1 := INV_take h hi
  obtain ⟨dc', pr, ac, g, hD, hA⟩ := h1.2.1.1 s0 b0 k4 k5 hrg
  have e : dc' = dc := by
    have := hD.2.2.2.1.1.symm.trans ((mtk_o (by decide)).trans hM3)
    exact (nI_eq (by have := hD.1.1; omega) (by omega)).mp this
  subst e
  obtain ⟨-, hq, hps⟩ := HND_out (HND_take (n := n) hv)
  obtain ⟨pr', ac', -, -, hA1⟩ := SIM_learn h1 k4 k5 hrg hD hA k9 (hpl _ (by omega)) hps
  rcases hA1.2 with q | q
  · exact absurd (q.1.trans nI_0) hne
  · exact q.1.1
/-- the numbers of the first letter, read from the model's row -/
def ln (v : Int32) : Nat := v.toNatClampNeg
theorem ln_nI {k : Nat} (h : k < 2 ^ 31) : ln (nI k) = k := nI_clamp h
noncomputable def mst1 (M : fV) : fV := mho M 0 (ln (M 22 0)) (20 * ln (M 21 2) + ln (M 21 3)) (ln (M 3 (20 * ln (M 21 2) + ln (M 21 3)))) (ln (M 21 9)) (ln (M 21 0)) (ln (M 21 2)) (ln (M 21 3))
noncomputable def mit (M : fV) : Nat → fV
  | 0 => M
  | k + 1 => mst1 (mit M k)
def cst1 (rg : Nat → Bool) (q : (Nat → Nat) × fV) : (Nat → Nat) × fV :=
  (tkp q.1 (ln (q.2 54 0)) 0, shoV (tkp q.1 (ln (q.2 54 0)) 0) ((ln (q.2 54 0) + 1) % 100) (ln (q.2 55 0) - 1) (ln (q.2 34 (dx rg (ln (q.2 46 (q.1 ((ln (q.2 54 0) + 0) % 100 + 1)))) (ln (q.2 47 (q.1 ((ln (q.2 54 0) + 0) % 100 + 1))))))) (ln (q.2 52 (q.1 ((ln (q.2 54 0) + 0) % 100 + 1))))
    (mu (mu q.2 54 0 (nI ((ln (q.2 54 0) + 1) % 100))) 55 0 (nI (ln (q.2 55 0) - 1))) (dx rg (ln (q.2 46 (q.1 ((ln (q.2 54 0) + 0) % 100 + 1)))) (ln (q.2 47 (q.1 ((ln (q.2 54 0) + 0) % 100 + 1))))) (q.1 ((ln (q.2 54 0) + 0) % 100 + 1)) (ln (q.2 44 (q.1 ((ln (q.2 54 0) + 0) % 100 + 1)))) (ln (q.2 46 (q.1 ((ln (q.2 54 0) + 0) % 100 + 1)))))
def cit (rg : Nat → Bool) (q : (Nat → Nat) × fV) : Nat → (Nat → Nat) × fV
  | 0 => q
  | k + 1 => cst1 rg (cit rg q k)
theorem mst1_eq {kd fr s0 b0 su nu mo c2 dc t : Nat} (h22 : M 22 0 = nI n) (hn2 : n ≤ 100) (hv : LTv rg V M t (34 * 0) kd fr s0 b0 su nu mo c2) (hM3 : M 3 (20 * s0 + b0) = nI dc) (hd : dc ≤ 12) : mst1 M = mho M 0 n (20 * s0 + b0) dc c2 kd s0 b0 := by
  obtain ⟨k1, k2, k3, k4, k5, k6, k7, k8, k9, -⟩ := id hv.1
  obtain ⟨-, -, ⟨b1, b2, b3, b4, b5, b6, b7, b8⟩, -⟩ := hv
  have e0 : M 21 0 = nI kd := b1
  have e2 : M 21 2 = nI s0 := b3
  have e3 : M 21 3 = nI b0 := b4
  have e9 : M 21 9 = nI c2 := b8
  unfold mst1
  rw [h22, e0, e2, e3, e9, ln_nI (by omega), ln_nI (k := s0) (by omega), ln_nI (k := b0) (by omega), hM3, ln_nI (k := dc) (by omega), ln_nI (k := c2) (by omega), ln_nI (k := kd) (by omega)]
theorem cst1_eq {kd fr s0 b0 su nu mo c2 dc t : Nat} (hf : V 54 0 = nI f) (hf2 : f < 100) (hn : V 55 0 = nI n) (hn2 : n ≤ 100) (ht : pl ((f + 0) % 100 + 1) = t) (hv : LTv rg V M t (34 * 0) kd fr s0 b0 su nu mo c2) (hC : V 34 (dx rg s0 b0) = nI dc) (hd : dc ≤ 12) :
    cst1 rg (pl, V) = (tkp pl f 0, shoV (tkp pl f 0) ((f + 1) % 100) (n - 1) dc c2 (mu (mu V 54 0 (nI ((f + 1) % 100))) 55 0 (nI (n - 1))) (dx rg s0 b0) t kd s0) := by
  obtain ⟨k1, k2, k3, k4, k5, k6, k7, k8, k9, -⟩ := id hv.1
  obtain ⟨-, ⟨a1, a2, a3, a4, a5, a6, a7, a8⟩, -⟩ := hv
  unfold cst1
  show (tkp pl (ln (V 54 0)) 0, _) = _
  simp only
  rw [hf, ln_nI (by omega), hn, ln_nI (k := n) (by omega), ht, a3, a4, a1, a8, ln_nI (k := s0) (by omega), ln_nI (k := b0) (by omega), hC, ln_nI (k := dc) (by omega), ln_nI (k := c2) (by omega), ln_nI (k := kd) (by omega)]
theorem SIM_iter (h : INV rg pl V M f n) (k : Nat) (hk : ∀ j, j < k → ¬ mit M j 22 0 = nI 0) : ∃ f' n', INV rg (cit rg (pl, V) k).1 (cit rg (pl, V) k).2 (mit M k) f' n' := by
  induction k with
  | zero => exact ⟨f, n, h⟩
  | succ k ih =>
    obtain ⟨f', n', hI⟩ := ih (fun j hj => hk j (by omega))
    have hz := hk k (by omega)
    have hn0 : 0 < n' := by
      rcases Nat.eq_zero_or_pos n' with e | e
      · rw [e] at hI; exact absurd hI.1.2.1 hz
      · exact e
    obtain ⟨kd, fr, s0, b0, su, nu, mo, c2, dc, hv, hC, hd, hM3, -⟩ := INV_letter hI hn0
    obtain ⟨⟨n2, hI2⟩, -⟩ := SIM_deliver hI hn0 hv hC hd hM3
    have e1 := mst1_eq hI.1.2.1 hI.1.1.2.2.2.1 hv hM3 hd
    have e2 := cst1_eq (rg := rg) hI.1.1.1 hI.1.1.2.1 hI.1.1.2.2.1 hI.1.1.2.2.2.1 rfl hv hC hd
    refine ⟨(f' + 1) % 100, n2, ?_⟩
    show INV rg (cst1 rg (cit rg (pl, V) k)).1 (cst1 rg (cit rg (pl, V) k)).2 (mst1 (mit M k)) _ _
    have e3 : cst1 rg (cit rg (pl, V) k) = _ := e2
    rw [e1, e3]
    exact hI2
end SDL
