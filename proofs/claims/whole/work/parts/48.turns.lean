/-! TURNS: shops up and down, askings, letters: class and model stay alike. -/
section STP
variable {rg : Nat → Bool} {pl : Nat → Nat} {V M V' M' : fV} {f n : Nat}
theorem mu_comm {V : fV} {k i k' i' : Nat} {v v' : Int32} (h : ¬ (k = k' ∧ i = i')) : mu (mu V k i v) k' i' v' = mu (mu V k' i' v') k i v := by
  funext a b
  by_cases h1 : a = k ∧ b = i
  · obtain ⟨rfl, rfl⟩ := h1
    rw [mu_o h, mu_s, mu_s]
  · by_cases h2 : a = k' ∧ b = i'
    · obtain ⟨rfl, rfl⟩ := h2
      rw [mu_s, mu_o h1, mu_s]
    · rw [mu_o h2, mu_o h1, mu_o h1, mu_o h2]
theorem mu_eq {V : fV} {k i : Nat} {v : Int32} (h : V k i = v) : mu V k i v = V := by
  have := mu_same (V := V) (k := k) (i := i)
  rw [h] at this
  exact this
theorem sen_59 {d : Nat} {v : Int32} : sen (mu V 59 0 v) d = mu (sen V d) 59 0 v := by
  funext k i
  by_cases hk : k = 59 ∧ i = 0
  · obtain ⟨rfl, rfl⟩ := hk
    rw [sen_o (by omega), mu_s, mu_s]
  · rw [mu_o hk]
    by_cases h1 : k < 36 ∨ 43 < k ∨ i ≠ d
    · rw [sen_o h1, sen_o h1, mu_o hk]
    · have h2 : i = d ∧ (k = 36 ∨ k = 37 ∨ k = 38 ∨ k = 39 ∨ k = 40 ∨ k = 41 ∨ k = 42 ∨ k = 43) := by omega
      obtain ⟨rfl, h2⟩ := h2
      obtain ⟨a1, a2, a3, a4, a5, a6, a7, a8⟩ := sen_v (V := mu V 59 0 v) (d := i)
      obtain ⟨b1, b2, b3, b4, b5, b6, b7, b8⟩ := sen_v (V := V) (d := i)
      rcases h2 with rfl | rfl | rfl | rfl | rfl | rfl | rfl | rfl
      · exact a1.trans b1.symm
      · exact a2.trans b2.symm
      · exact a3.trans b3.symm
      · exact a4.trans b4.symm
      · exact a5.trans b5.symm
      · exact a6.trans b6.symm
      · exact a7.trans b7.symm
      · exact a8.trans b8.symm
theorem sea_59 {a0 : Nat} {v : Int32} (j : Nat) : sea (mu V 59 0 v) rg a0 j = mu (sea V rg a0 j) 59 0 v := by
  induction j with
  | zero => rfl
  | succ j ih =>
    show (if rg j = true then sen (sea (mu V 59 0 v) rg a0 j) (20 * a0 + j) else sea (mu V 59 0 v) rg a0 j) = mu (if rg j = true then sen (sea V rg a0 j) (20 * a0 + j) else sea V rg a0 j) 59 0 v
    rw [ih]
    split
    · exact sen_59
    · rfl
theorem sea_o9 {a0 k i : Nat} (h : k < 36 ∨ 43 < k) (j : Nat) : sea V rg a0 j k i = V k i := by
  induction j with
  | zero => rfl
  | succ j ih =>
    show (if rg j = true then sen (sea V rg a0 j) (20 * a0 + j) else sea V rg a0 j) k i = V k i
    split
    · rw [sen_o (by omega)]; exact ih
    · exact ih
theorem mse_2 {a a0 : Nat} {v : Int32} : mse (mu M 2 a0 v) a = mu (mse M a) 2 a0 v := by
  unfold mse
  rw [mu_comm (k := 2) (k' := 11) (fun z => absurd z.1 (by decide)), mu_comm (k := 2) (k' := 14) (fun z => absurd z.1 (by decide)), mu_comm (k := 2) (k' := 15) (fun z => absurd z.1 (by decide)), mu_comm (k := 2) (k' := 16) (fun z => absurd z.1 (by decide))]
theorem mea_2 {a0 a1 : Nat} {v : Int32} (j : Nat) : mea (mu M 2 a1 v) a0 j = mu (mea M a0 j) 2 a1 v := by
  induction j with
  | zero => rfl
  | succ j ih =>
    show mse (mea (mu M 2 a1 v) a0 j) (20 * a0 + j) = mu (mse (mea M a0 j) (20 * a0 + j)) 2 a1 v
    rw [ih]
    exact mse_2
theorem mea_o {a0 k i : Nat} (h : k < 11 ∨ k = 12 ∨ k = 13 ∨ 16 < k) (j : Nat) : mea M a0 j k i = M k i := by
  induction j with
  | zero => rfl
  | succ j ih =>
    show mse (mea M a0 j) (20 * a0 + j) k i = M k i
    rw [mse_o (by omega)]; exact ih
theorem mse_id {a : Nat} (h : AK0 M a) : mse M a = M := by
  obtain ⟨h1, h2, h3, h4⟩ := h
  unfold mse
  rw [mu_eq h1, mu_eq h2, mu_eq h3, mu_eq h4]
theorem mea_id {a0 : Nat} (h : ∀ b, b < 20 → AK0 M (20 * a0 + b)) (j : Nat) (hj : j ≤ 20) : mea M a0 j = M := by
  induction j with
  | zero => rfl
  | succ j ih =>
    show mse (mea M a0 j) (20 * a0 + j) = M
    rw [ih (by omega)]
    exact mse_id (h j (by omega))
theorem INV_sea {a0 : Nat} (h : INV rg pl V M f n) (ha : a0 < 25) (j : Nat) (hj : j ≤ 20) : INV rg pl (sea V rg a0 j) (mea M a0 j) f n ∧ ∀ b, b < j → AK0 (mea M a0 j) (20 * a0 + b) := by
  induction j with
  | zero => exact ⟨h, fun b hb => absurd hb (Nat.not_lt_zero _)⟩
  | succ j ih =>
    obtain ⟨i1, i2⟩ := ih (by omega)
    have hm : mea M a0 (j + 1) = mse (mea M a0 j) (20 * a0 + j) := rfl
    refine ⟨?_, fun b hb => ?_⟩
    · rw [hm]
      cases hr : rg j with
      | true =>
        have hs : sea V rg a0 (j + 1) = sen (sea V rg a0 j) (20 * a0 + j) := if_pos hr
        obtain ⟨dc, pr, ac, g, hD, hA⟩ := i1.2.1.1 a0 j ha (by omega) hr
        rw [hs]
        exact INV_dsk ha (by omega) hr (fun k i h1 h2 => sen_o (by omega)) (fun k i h1 h2 h3 => mse_o (by omega)) (DSK_end hD) i1
      | false =>
        have hs : sea V rg a0 (j + 1) = sea V rg a0 j := if_neg (by rw [hr]; decide)
        rw [hs, mse_id (i1.2.1.2.1 a0 j ha (by omega) hr).2]
        exact i1
    · rw [hm]
      by_cases hbj : b = j
      · rw [hbj]; exact mse_v
      · obtain ⟨k1, k2, k3, k4⟩ := i2 b (by omega)
        exact ⟨(mse_o (by omega)).trans k1, (mse_o (by omega)).trans k2, (mse_o (by omega)).trans k3, (mse_o (by omega)).trans k4⟩
theorem INV_dn {a0 : Nat} (h : INV rg pl V M f n) (ha : a0 < 25) (hd : M 2 a0 = nI 1) : ∀ b, b < 20 → AK0 M (20 * a0 + b) := by
  intro b hb
  cases hr : rg b with
  | true =>
    obtain ⟨dc, pr, ac, g, hD, hA⟩ := h.2.1.1 a0 b ha hb hr
    rcases hA.2 with q | q
    · exact q
    · exact absurd (hd.symm.trans q.1.2.2) (by decide +kernel)
  | false => exact (h.2.1.2.1 a0 b ha hb hr).2
theorem INV_sw {a0 : Nat} {v w : Int32} (ha : a0 < 25) (h : INV rg pl V M f n) (hz : ∀ b, b < 20 → AK0 M (20 * a0 + b)) (hu : UPI (mu V 59 0 v) (mu M 2 a0 w)) : INV rg pl (mu V 59 0 v) (mu M 2 a0 w) f n := by
  obtain ⟨h1, h2, h3, h4⟩ := h
  have hv : ∀ k i, k ≠ 59 → mu V 59 0 v k i = V k i := fun k i h => mu_k h
  have hm : ∀ k i, k ≠ 2 → mu M 2 a0 w k i = M k i := fun k i h => mu_k h
  refine ⟨ROWI_cg (fun k i q _ _ => hv k i (by omega)) (fun k _ _ => hv k 0 (by omega)) (fun i j _ => hv _ j (by omega)) (fun i => hm 21 i (by omega)) (fun k hk => hm k 0 (by omega)) h1,
    ⟨fun s0 b0 i1 i2 i3 => ?_, fun s0 b0 i1 i2 i3 => DSN_cg (fun k hk => hm k _ (by omega)) (h2.2.1 s0 b0 i1 i2 i3), D500_cg (fun k hk => hv k _ (by omega)) h2.2.2⟩, hu, REGI_cg (fun k i hk => hv k i (by omega)) (fun k i hk => hm k i (by omega)) h4⟩
  by_cases hs : s0 = a0
  · subst hs
    obtain ⟨dc, pr, ac, g, hD, hA, -⟩ := h2.1 s0 b0 i1 i2 i3
    have hzz := hz b0 i2
    exact ⟨dc, pr, ac, g, DKv_cg (fun k hk => hv k _ (by omega)) (fun j => hv _ j (by omega)) (fun k i hk => hm k i (by omega)) hD,
      ⟨(hv _ _ (by decide)).trans (hA.1.trans (hm _ _ (by decide)).symm), (hv _ _ (by decide)).trans (hA.2.1.trans (hm _ _ (by decide)).symm), (hv _ _ (by decide)).trans (hA.2.2.1.trans (hm _ _ (by decide)).symm), (hv _ _ (by decide)).trans (hA.2.2.2.trans (hm _ _ (by decide)).symm)⟩,
      Or.inl ⟨(hm _ _ (by decide)).trans hzz.1, (hm _ _ (by decide)).trans hzz.2.1, (hm _ _ (by decide)).trans hzz.2.2.1, (hm _ _ (by decide)).trans hzz.2.2.2⟩⟩
  · exact DSK_cg (fun k hk => hv k _ (by omega)) (fun j => hv _ j (by omega)) (fun k hk => hm k _ (by omega)) (fun j hj => ⟨hm 9 _ (by decide), hm 10 _ (by decide)⟩) (mu_i hs) (h2.1 s0 b0 i1 i2 i3)
theorem upb_bit {s0 : Nat} (hs : s0 < 25) : upb V (nI s0) = (V 59 0).toBitVec.getLsbD s0 := by
  have hb := bit_iff (V 59 0) hs
  unfold upb
  cases hg : (V 59 0).toBitVec.getLsbD s0 with
  | true => exact decide_eq_true (hb.mpr hg)
  | false => exact decide_eq_false (fun z => by rw [hb.mp z] at hg; cases hg)
theorem upb_tg {a0 s0 : Nat} (ha : a0 < 25) (hs : s0 < 25) : upb (mu V 59 0 (V 59 0 ^^^ nI 1 <<< (nI a0 &&& 31))) (nI s0) = (upb V (nI s0) ^^ decide (a0 = s0)) := by
  rw [upb_bit hs, upb_bit hs, mu_s, shl_1 ha, Int32.toBitVec_xor, BitVec.getLsbD_xor, nI_bit _ (by omega), Nat.testBit_two_pow]
theorem UPI_tg {a0 : Nat} (ha : a0 < 25) (h : UPI V M) {w : Int32} (hw : (upb V (nI a0) = true ∧ w = nI 1) ∨ (upb V (nI a0) = false ∧ w = nI 0)) : UPI (mu V 59 0 (V 59 0 ^^^ nI 1 <<< (nI a0 &&& 31))) (mu M 2 a0 w) := by
  intro s0 hs
  rw [upb_tg ha hs]
  by_cases e1 : s0 = a0
  · subst e1
    rw [mu_s, decide_eq_true rfl]
    rcases hw with ⟨u, w1⟩ | ⟨u, w1⟩
    · rw [u, w1]; exact Or.inr ⟨rfl, rfl⟩
    · rw [u, w1]; exact Or.inl ⟨rfl, rfl⟩
  · rw [mu_i e1, decide_eq_false (fun z => e1 z.symm), Bool.xor_false]
    exact h s0 hs
theorem UP_t0 {a0 : Nat} (h : INV rg pl V M f n) (ha : a0 < 25) (hu : upb V (nI a0) = true) : INV rg pl (sea (mu V 59 0 (V 59 0 ^^^ nI 1 <<< (nI a0 &&& 31))) rg a0 20) (mea (mu (mu M 27 0 (nI 0)) 2 a0 (nI 1)) a0 20) f n := by
  rw [sea_59, mea_2]
  obtain ⟨i1, i2⟩ := INV_sea (INV_27 (v := nI 0) h) ha 20 (Nat.le_refl _)
  have e9 : sea V rg a0 20 59 0 = V 59 0 := sea_o9 (by omega) 20
  have hu2 : upb (sea V rg a0 20) (nI a0) = true := by
    unfold upb at hu ⊢
    rw [e9]; exact hu
  have q := UPI_tg ha i1.2.2.1 (w := nI 1) (Or.inl ⟨hu2, rfl⟩)
  rw [e9] at q
  exact INV_sw ha i1 i2 q
theorem UP_f1 {a0 : Nat} (h : INV rg pl V M f n) (ha : a0 < 25) (hu : upb V (nI a0) = false) (hd : M 2 a0 = nI 1) : INV rg pl (mu V 59 0 (V 59 0 ^^^ nI 1 <<< (nI a0 &&& 31))) (mu (mu M 27 0 (nI 0)) 2 a0 (nI 0)) f n := by
  have i1 := INV_27 (v := nI 0) h
  exact INV_sw ha i1 (INV_dn i1 ha ((mu_k (by decide)).trans hd)) (UPI_tg ha i1.2.2.1 (Or.inr ⟨hu, rfl⟩))
theorem UP_t1 {a0 : Nat} (h : INV rg pl V M f n) (hd : M 2 a0 = nI 0) : INV rg pl V (mu (mu M 27 0 (nI 0)) 2 a0 (nI 0)) f n := by
  rw [mu_eq (V := mu M 27 0 (nI 0)) (k := 2) (i := a0) ((mu_k (by decide)).trans hd)]
  exact INV_27 h
theorem UP_f0 {a0 : Nat} (h : INV rg pl V M f n) (ha : a0 < 25) (hd : M 2 a0 = nI 1) : INV rg pl V (mea (mu (mu M 27 0 (nI 0)) 2 a0 (nI 1)) a0 20) f n := by
  have i1 := INV_27 (v := nI 0) h
  have h2 : mu M 27 0 (nI 0) 2 a0 = nI 1 := (mu_k (by decide)).trans hd
  rw [mu_eq h2, mea_id (INV_dn i1 ha h2) 20 (Nat.le_refl _)]
  exact i1
theorem day_lt {q0 d0 ap : Nat} (hq : q0 ≤ 100000) (hd : d0 ≤ 100000) (ha : ap ≤ 90) : nI q0 - nI d0 < nI ap ↔ nI q0 < nI d0 + nI ap := by
  rw [Int32.lt_iff_toInt_lt, Int32.lt_iff_toInt_lt, pk_sub_toInt (by omega) (by omega), nI_add, nI_toInt (by omega), nI_toInt (by omega), nI_toInt (by omega)]
  omega
theorem EQ_ask {a0 b0 q0 : Nat} (h : INV rg pl V M f n) (ha : a0 < 25) (hb : b0 < 20) (hq : q0 ≤ 100000) (hr : rg b0 = true) : ∃ nc pr ac g sp, DKv V M (20 * a0 + b0) a0 b0 nc pr ac g ∧ AKv V M (20 * a0 + b0) a0 nc ∧ M 0 b0 = nI sp ∧ 1 ≤ sp ∧ sp ≤ 12 ∧
    ((lak V b0 (20 * a0 + b0) nc (nI q0) = nI 1 ∧ nc < sp ∧ (0 < nc → ¬ nI q0 < M 10 (12 * (20 * a0 + b0) + nc - 1) + M 1 b0)) ∨ (lak V b0 (20 * a0 + b0) nc (nI q0) = nI 0 ∧ (sp ≤ nc ∨ (nc < sp ∧ 0 < nc ∧ nI q0 < M 10 (12 * (20 * a0 + b0) + nc - 1) + M 1 b0)))) := by
  obtain ⟨nc, pr, ac, g, hD, hA⟩ := h.2.1.1 a0 b0 ha hb hr
  obtain ⟨sp, ap, s1, s2, p1, v60, v61, m0, m1'⟩ := (h.2.2.2 b0 hb).1 hr
  refine ⟨nc, pr, ac, g, sp, hD, hA, m0, s1, s2, ?_⟩
  have hnc := hD.1.1
  unfold lak
  rw [v60, v61]
  by_cases c1 : nc < sp
  · have c1' : ¬ ¬ nI nc < nI sp := fun z => z (nI_lt c1 (by omega))
    rw [if_neg c1']
    by_cases c2 : nc = 0
    · rw [if_pos c2]; exact Or.inl ⟨rfl, c1, fun z => absurd c2 (by omega)⟩
    · rw [if_neg c2]
      have hP := hD.2.2.2.2.1 (nc - 1) (by omega)
      obtain ⟨s0, d0, i1, i2, i3, i4, i5⟩ := id hP
      have hd := (PR2_sd hP).2
      have e1 : 12 * (20 * a0 + b0) + nc - 1 = 12 * (20 * a0 + b0) + (nc - 1) := by omega
      rw [hd, e1, i4, m1']
      by_cases c3 : nI q0 - nI d0 < nI ap
      · rw [if_pos c3]; exact Or.inr ⟨rfl, Or.inr ⟨c1, by omega, (day_lt hq i2 p1).mp c3⟩⟩
      · rw [if_neg c3]; exact Or.inl ⟨rfl, c1, fun _ z => c3 ((day_lt hq i2 p1).mpr z)⟩
  · have c1' : ¬ nI nc < nI sp := fun z => c1 ((nI_ltI (by omega) (by omega)).mp z)
    rw [if_pos c1']; exact Or.inr ⟨rfl, Or.inl (by omega)⟩
theorem SIM_ask {a0 b0 q0 nc pr ac g nx : Nat} (h : INV rg pl V M f n) (ha : a0 < 25) (hb : b0 < 20) (hq : q0 ≤ 100000) (hr : rg b0 = true) (hD : DKv V M (20 * a0 + b0) a0 b0 nc pr ac g) (hd : nc < 12) (hup : M 2 a0 = nI 0) (hnx : nx ≤ 25024) :
    INV rg pl (ssr pl f n nc (mu (mu (sen V (20 * a0 + b0)) 36 (20 * a0 + b0) (nI (nc + 1))) 37 (20 * a0 + b0) (nI q0 * nI 25 + nI a0)) (20 * a0 + b0) nx) (mrd (mu (mu (mu (mu (mse (mu (mu M 27 0 (nI 0)) 27 0 (nI 0)) (20 * a0 + b0)) 11 (20 * a0 + b0) (nI (nc + 1))) 12 (20 * a0 + b0) (nI a0)) 13 (20 * a0 + b0) (nI q0)) 20 (20 * a0 + b0) (nI 0)) n (20 * a0 + b0) nc a0 b0 nx) f (if nx = 0 then n else m1 (n + 25)) := by
  refine SIM_round (rf := 0) h ha hb hr (fun k i hk => ?_) (fun k i hk h27 => ?_) (DKv_cg (fun k hk => ?_) (fun j => ?_) (fun k i hk => ?_) hD) hd ?_ ?_ ?_ ?_ ?_ ?_ (Nat.zero_le _) hnx
  · rw [mu_o (by omega), mu_o (by omega), sen_o (by omega)]
  · rw [mu_o (by omega), mu_o (by omega), mu_o (by omega), mu_o (by omega), mse_o (by omega), mu_k h27, mu_k h27]
  · rw [mu_o (by omega), mu_o (by omega), sen_o (by omega)]
  · rw [mu_k (by omega), mu_k (by omega), sen_o (by omega)]
  · rw [mu_k (by omega), mu_k (by omega), mu_k (by omega), mu_k (by omega), mse_o (by omega), mu_k (by omega), mu_k (by omega)]
  · rw [mu_k (by decide), mu_s]
  · rw [mu_k (by decide), mu_k (by decide), mu_k (by decide), mu_s]
  · rw [mu_k (by decide), mu_k (by decide), mu_k (by decide), mu_k (by decide), mse_o (by omega), mu_k (by decide), mu_k (by decide)]; exact hup
  · exact ⟨a0, q0, ha, hq, (mu_k (by decide)).trans ((mu_k (by decide)).trans mu_s), (mu_k (by decide)).trans mu_s, mu_s.trans (by rw [pk_mul, nI_add])⟩
  · rw [mu_k (by decide), mu_k (by decide)]; exact sen_v.2.2.2.2.2.1
  · exact mu_s
theorem mrd_27 {a dc a0 b0 nx : Nat} : mrd M n a dc a0 b0 nx 27 0 = M 27 0 := by
  unfold mrd mr1
  split
  · exact mse_o (by omega)
  · rw [mal_o (by omega), mu_k (by decide), mu_k (by decide), mu_k (by decide), mu_k (by decide), mu_k (by decide)]
theorem SIM_retry {a0 b0 nc pr ac g nx : Nat} (h : INV rg pl V M f n) (ha : a0 < 25) (hb : b0 < 20) (hr : rg b0 = true) (hD : DKv V M (20 * a0 + b0) a0 b0 nc pr ac g) (hA : V 36 (20 * a0 + b0) = M 11 (20 * a0 + b0)) (hK : AK1 V M (20 * a0 + b0) a0 nc) (hnx : nx ≤ 25024) :
    INV rg pl (ssr pl f n nc V (20 * a0 + b0) nx) (mrd (mu (mu M 27 0 (nI 0)) 27 0 (nI 0)) n (20 * a0 + b0) nc a0 b0 nx) f (if nx = 0 then n else m1 (n + 25)) := by
  obtain ⟨⟨d12, m11, m2⟩, -, -, hp, ⟨rf, r1, r2, r3⟩, -⟩ := hK
  refine SIM_round (rf := rf) h ha hb hr (fun k i hk => rfl) (fun k i hk h27 => ?_) (DKv_cg (fun k hk => rfl) (fun j => rfl) (fun k i hk => ?_) hD) d12 (hA.trans m11) ?_ ?_ ?_ r2 ?_ r1 hnx
  · rw [mu_k h27, mu_k h27]
  · rw [mu_k (by omega), mu_k (by omega)]
  · rw [mu_k (by decide), mu_k (by decide)]; exact m11
  · rw [mu_k (by decide), mu_k (by decide)]; exact m2
  · rw [mu_k (by decide), mu_k (by decide), mu_k (by decide), mu_k (by decide)]; exact hp
  · rw [mu_k (by decide), mu_k (by decide)]; exact r3
theorem SIM_teach {a0 a1 b0 nc : Nat} (h : INV rg pl V M f n) (ha : a0 < 25) (ha1 : a1 < 25) (hb : b0 < 20) (hc : V 34 (dx rg a0 b0) = nI nc) (hc2 : nc ≤ 12) :
    INV rg pl (snd pl f n nc (swr V 101 (nI 6) (nI a0) (nI b0) (nI 0) (nI 0) (dx rg a0 b0) nc) (nI a1)) (msn (mu (mu M 27 0 (nI 0)) 27 0 (nI 0)) n (20 * a0 + b0) nc a0 b0 (nI 6) (nI a1) (nI 0) (nI 0) (nI 0) (-1) (-1)) f (nx1 n) := by
  obtain ⟨nc', h1, h2, h3, h4⟩ := INV_cnt h ha hb
  obtain rfl : nc = nc' := (nI_eq (by omega) (by omega)).mp (hc.symm.trans h2)
  have h27 := INV_27 (v := nI 0) (INV_27 (v := nI 0) h)
  have hdf : INV rg pl (swr V 101 (nI 6) (nI a0) (nI b0) (nI 0) (nI 0) (dx rg a0 b0) nc) (mu (mu M 27 0 (nI 0)) 27 0 (nI 0)) f n := INV_dft (fun k i k1 k2 => swr_o (by omega) (by omega)) h27
  obtain ⟨w1, w2, w3, w4, w5, w6, w7, w8⟩ := swr_v (V := V) (x1 := nI 6) (x2 := nI a0) (x3 := nI b0) (x4 := nI 0) (x5 := nI 0) (d := dx rg a0 b0) (nc := nc)
  refine INV_send hdf ⟨by decide, by decide, ha, ha1, hb, by decide, by decide, by decide, hc2, fun z => absurd rfl z, (fun z => by rcases z with z | z <;> cases z), (fun z => by cases z), fun z => ?_⟩ ⟨⟨w1, w2, w3, w4, w5, w6, w8⟩, Or.inr ⟨by omega, w7, rfl, rfl⟩, fun j hj => ?_⟩
  · have e1 : dx rg a0 b0 = 500 := if_neg (by rw [z]; decide)
    rw [e1] at hc
    exact (nI_eq (by omega) (by decide)).mp (hc.symm.trans h.2.1.2.2.1)
  · rw [swr_p hj, mu_k (by decide), mu_k (by decide), mu_k (by decide), mu_k (by decide)]; exact h4 j hj
theorem SIM_copy {i nc : Nat} (h : INV rg pl V M f n) (hi : i < n) (hn : n < 100) (hc : V 52 (pl ((f + i) % 100 + 1)) = nI nc) (hnc : nc ≤ 12) : INV rg pl (rpt pl f n i nc V) (mu (ccp (mu M 27 0 (nI 0)) i n 34) 22 0 (nI (n + 1))) f (n + 1) := by
  have hp := h.1.1.2.2.2.2 ((f + n) % 100 + 1) (by omega)
  refine INV_row (ROWI_copy h.1 hi hn hc hnc) (fun k j hk => ?_) (fun k j hk => ?_) h
  · unfold rpt
    rw [if_pos hn, mu_k (by omega), slb_o (by omega) (by omega)]
  · rw [mu_k (by omega), ccp_o (by omega), mu_k (by omega)]
/-- a prescription is registered -/
def rgu (rg : Nat → Bool) (b0 : Nat) : Nat → Bool := fun q => if q = b0 then true else rg q
def ini (b0 k i : Nat) : Int32 := if k = 63 then nI (i / 20) else if k = 64 then nI b0 else if k = 32 ∨ k = 37 ∨ k = 43 then -1 else nI 0
def rgV (V : fV) (b0 : Nat) (c1 c2 : Int32) : fV := fun k i =>
  if k = 60 ∧ i = b0 then c1 else if k = 61 ∧ i = b0 then c2 else if ((30 ≤ k ∧ k ≤ 43) ∨ k = 63 ∨ k = 64) ∧ i < 500 ∧ i % 20 = b0 then ini b0 k i else if 100 ≤ k ∧ k < 600 ∧ (k - 100) % 20 = b0 then 0 else V k i
theorem rgV_60 {b0 : Nat} {c1 c2 : Int32} : rgV V b0 c1 c2 60 b0 = c1 := if_pos ⟨rfl, rfl⟩
theorem rgV_61 {b0 : Nat} {c1 c2 : Int32} : rgV V b0 c1 c2 61 b0 = c2 := by unfold rgV; rw [if_neg (by omega), if_pos ⟨rfl, rfl⟩]
theorem rgV_d {b0 k i : Nat} {c1 c2 : Int32} (hk : (30 ≤ k ∧ k ≤ 43) ∨ k = 63 ∨ k = 64) (hi : i < 500) (h : i % 20 = b0) : rgV V b0 c1 c2 k i = ini b0 k i := by
  unfold rgV; rw [if_neg (by omega), if_neg (by omega), if_pos ⟨hk, hi, h⟩]
theorem rgV_p {b0 d j : Nat} {c1 c2 : Int32} (hi : d < 500) (h : d % 20 = b0) : rgV V b0 c1 c2 (100 + d) j = 0 := by
  unfold rgV
  have e1 : 100 + d - 100 = d := by omega
  rw [if_neg (by omega), if_neg (by omega), if_neg (by omega), if_pos ⟨by omega, by omega, by rw [e1]; exact h⟩]
theorem rgV_o {b0 k i : Nat} {c1 c2 : Int32} (h1 : ¬ ((k = 60 ∨ k = 61) ∧ i = b0)) (h2 : ¬ (((30 ≤ k ∧ k ≤ 43) ∨ k = 63 ∨ k = 64) ∧ i < 500 ∧ i % 20 = b0)) (h3 : ¬ (100 ≤ k ∧ k < 600 ∧ (k - 100) % 20 = b0)) : rgV V b0 c1 c2 k i = V k i := by
  unfold rgV
  rw [if_neg (fun z => h1 ⟨Or.inl z.1, z.2⟩), if_neg (fun z => h1 ⟨Or.inr z.1, z.2⟩), if_neg h2, if_neg h3]
theorem LTv_rgu {b0 t k kd fr to b su nu mo c2 : Nat} (h : LTv rg V M t k kd fr to b su nu mo c2) : LTv (rgu rg b0) V M t k kd fr to b su nu mo c2 := by
  obtain ⟨⟨q1, q2, q3, q4, q5, q6, q7, q8, q9, q10, q11, q12, q13⟩, hr⟩ := h
  refine ⟨⟨q1, q2, q3, q4, q5, q6, q7, q8, q9, fun z => ?_, q11, q12, fun z => q13 ?_⟩, hr⟩
  · unfold rgu
    split
    · rfl
    · exact q10 z
  · unfold rgu at z
    by_cases hb : b = b0
    · rw [if_pos hb] at z; cases z
    · rw [if_neg hb] at z; exact z
theorem SIM_reg {b0 c1 c2 : Nat} (h : INV rg pl V M f n) (hb : b0 < 20) (hr : rg b0 = false) (h1 : 1 ≤ c1) (h2 : c1 ≤ 12) (h3 : c2 ≤ 90) : INV (rgu rg b0) pl (rgV V b0 (nI c1) (nI c2)) (mu (mu (mu (mu M 27 0 (nI 0)) 27 0 (nI 0)) 0 b0 (nI c1)) 1 b0 (nI c2)) f n := by
  have hI := INV_27 (v := nI 0) (INV_27 (v := nI 0) h)
  obtain ⟨M1, hM1⟩ : ∃ M1, M1 = mu (mu M 27 0 (nI 0)) 27 0 (nI 0) := ⟨_, rfl⟩
  rw [← hM1] at hI ⊢
  obtain ⟨i1, i2, i3, i4⟩ := hI
  have hm : ∀ k i, 2 ≤ k → mu (mu M1 0 b0 (nI c1)) 1 b0 (nI c2) k i = M1 k i := fun k i hk => (mu_k (by omega)).trans (mu_k (by omega))
  refine ⟨?_, ⟨fun s0 b1 k1 k2 k3 => ?_, fun s0 b1 k1 k2 k3 => ?_, ?_⟩, ?_, fun b1 k1 => ?_⟩
  · have hR : ROWI rg pl (rgV V b0 (nI c1) (nI c2)) (mu (mu M1 0 b0 (nI c1)) 1 b0 (nI c2)) f n :=
      ROWI_cg (fun k i q1 q2 q3 => rgV_o (by omega) (by omega) (by omega)) (fun k q1 q2 => rgV_o (by omega) (by omega) (by omega)) (fun i j q1 => rgV_o (by omega) (by omega) (by omega)) (fun i => hm 21 i (by omega)) (fun k hk => hm k 0 (by omega)) i1
    obtain ⟨r1, r2, r3, r4, r5⟩ := hR
    refine ⟨r1, r2, r3, r4, fun i hi => ?_⟩
    obtain ⟨kd, fr, to, b, su, nu, mo, cc, hv⟩ := r5 i hi
    exact ⟨kd, fr, to, b, su, nu, mo, cc, LTv_rgu hv⟩
  · by_cases hbb : b1 = b0
    · subst hbb
      have hN := i2.2.1 s0 b1 k1 k2 hr
      obtain ⟨⟨m3, m4, m5, m8⟩, m11, m14, m15, m16⟩ := hN
      have hd : ∀ k, (30 ≤ k ∧ k ≤ 43) ∨ k = 63 ∨ k = 64 → rgV V b1 (nI c1) (nI c2) k (20 * s0 + b1) = ini b1 k (20 * s0 + b1) := fun k hk => rgV_d hk (by omega) (by omega)
      have hz : ∀ k, (30 ≤ k ∧ k ≤ 43) ∧ k ≠ 32 ∧ k ≠ 37 ∧ k ≠ 43 → rgV V b1 (nI c1) (nI c2) k (20 * s0 + b1) = nI 0 := fun k hk => by
        rw [hd k (Or.inl hk.1)]
        unfold ini
        rw [if_neg (by omega), if_neg (by omega), if_neg (by omega)]
      refine ⟨0, 0, 0, 0, ⟨⟨by decide, by decide, by decide, by decide⟩, ⟨?_, ?_⟩, ⟨hz 34 (by decide), hz 30 (by decide), hz 31 (by decide), hz 33 (by decide)⟩, ⟨(hm 3 _ (by decide)).trans m3, (hm 4 _ (by decide)).trans m4, (hm 5 _ (by decide)).trans m5, (hm 8 _ (by decide)).trans m8⟩, fun j hj => absurd hj (Nat.not_lt_zero _), Or.inl ⟨rfl, ?_⟩⟩,
        ⟨(hz 36 (by decide)).trans ((hm 11 _ (by decide)).trans m11).symm, (hz 38 (by decide)).trans ((hm 14 _ (by decide)).trans m14).symm, (hz 39 (by decide)).trans ((hm 15 _ (by decide)).trans m15).symm, (hz 40 (by decide)).trans ((hm 16 _ (by decide)).trans m16).symm⟩,
        Or.inl ⟨(hm 11 _ (by decide)).trans m11, (hm 14 _ (by decide)).trans m14, (hm 15 _ (by decide)).trans m15, (hm 16 _ (by decide)).trans m16⟩⟩
      · rw [hd 63 (by decide)]
        unfold ini
        have e1 : (20 * s0 + b1) / 20 = s0 := by omega
        rw [if_pos rfl, e1]
      · rw [hd 64 (by decide)]
        rfl
      · rw [hd 32 (by decide)]
        rfl
    · have k3' : rg b1 = true := by unfold rgu at k3; rw [if_neg hbb] at k3; exact k3
      exact DSK_cg (fun k hk => rgV_o (by omega) (by omega) (by omega)) (fun j => rgV_o (by omega) (by omega) (by omega)) (fun k hk => hm k _ (by omega)) (fun j hj => ⟨hm 9 _ (by decide), hm 10 _ (by decide)⟩) (hm 2 _ (by decide)) (i2.1 s0 b1 k1 k2 k3')
  · have hbb : b1 ≠ b0 := fun z => by unfold rgu at k3; rw [if_pos z] at k3; cases k3
    have k3' : rg b1 = false := by unfold rgu at k3; rw [if_neg hbb] at k3; exact k3
    exact DSN_cg (fun k hk => hm k _ (by omega)) (i2.2.1 s0 b1 k1 k2 k3')
  · exact D500_cg (fun k hk => rgV_o (by omega) (by omega) (by omega)) i2.2.2
  · exact UPI_cg (rgV_o (by omega) (by omega) (by omega)) (fun i => hm 2 i (by omega)) i3
  · by_cases hbb : b1 = b0
    · subst hbb
      refine ⟨fun _ => ⟨c1, c2, h1, h2, h3, rgV_60, rgV_61, (mu_k (by decide)).trans mu_s, mu_s⟩, fun z => ?_⟩
      unfold rgu at z
      rw [if_pos rfl] at z
      cases z
    · have e1 : rgu rg b0 b1 = rg b1 := if_neg hbb
      rw [e1, rgV_o (k := 60) (by omega) (by omega) (by omega), rgV_o (k := 61) (by omega) (by omega) (by omega), mu_i hbb, mu_i hbb, mu_i hbb, mu_i hbb]
      exact i4 b1 k1
/-- a new grid and a new model -/
def V0 : fV := fun k _ => if k = 59 then 33554431 else if k = 32 ∨ k = 37 ∨ k = 43 ∨ k = 51 ∨ k = 63 ∨ k = 64 then -1 else 0
def M0 : fV := fun _ _ => 0
theorem INV_0 : INV (fun _ => false) (fun q => q) V0 M0 0 0 := by
  have z : (0 : Int32) = nI 0 := nI_0.symm
  have v0 : ∀ k i, k ≠ 59 → k ≠ 32 → k ≠ 37 → k ≠ 43 → k ≠ 51 → k ≠ 63 → k ≠ 64 → V0 k i = nI 0 := fun k i h1 h2 h3 h4 h5 h6 h7 => by
    unfold V0
    rw [if_neg h1, if_neg (by omega)]; exact z
  refine ⟨⟨⟨v0 _ _ (by decide) (by decide) (by decide) (by decide) (by decide) (by decide) (by decide), by decide, v0 _ _ (by decide) (by decide) (by decide) (by decide) (by decide) (by decide) (by decide), by decide, fun q hq => (by omega : q < 101)⟩, z, fun q q' _ _ h => h, ⟨rfl, rfl, rfl⟩, fun i hi => absurd hi (Nat.not_lt_zero _)⟩,
    ⟨(fun s0 b0 _ _ h => by cases h), fun s0 b0 _ _ _ => ⟨⟨z, z, z, z⟩, z, z, z, z⟩, ⟨z, z, z, rfl, z, z, z, z⟩⟩, fun s0 hs => Or.inl ⟨?_, z⟩, fun b0 _ => ⟨(fun h => by cases h), fun _ => z⟩⟩
  have : s0 = 0 ∨ s0 = 1 ∨ s0 = 2 ∨ s0 = 3 ∨ s0 = 4 ∨ s0 = 5 ∨ s0 = 6 ∨ s0 = 7 ∨ s0 = 8 ∨ s0 = 9 ∨ s0 = 10 ∨ s0 = 11 ∨ s0 = 12 ∨ s0 = 13 ∨ s0 = 14 ∨ s0 = 15 ∨ s0 = 16 ∨ s0 = 17 ∨ s0 = 18 ∨ s0 = 19 ∨ s0 = 20 ∨ s0 = 21 ∨ s0 = 22 ∨ s0 = 23 ∨ s0 = 24 := by omega
  rcases this with rfl | rfl | rfl | rfl | rfl | rfl | rfl | rfl | rfl | rfl | rfl | rfl | rfl | rfl | rfl | rfl | rfl | rfl | rfl | rfl | rfl | rfl | rfl | rfl | rfl <;> decide +kernel
end STP
