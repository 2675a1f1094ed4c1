/-! ACCEPTANCES, REFUSALS, and a letter handed over: class and model go alike. -/
section SAC
variable {rg : Nat → Bool} {pl : Nat → Nat} {V M V' M' : fV} {f n : Nat}
theorem SIM_ac {s0 b0 dc pr ac g fr su nu t : Nat} (h : INV rg pl V M f n) (hs : s0 < 25) (hb : b0 < 20) (hr : rg b0 = true) (hD : DKv V M (20 * s0 + b0) s0 b0 dc pr ac g) (hA : AKv V M (20 * s0 + b0) s0 dc) (hfr : fr < 25) (hsu : su ≤ 13) (hnu : nu ≤ 25024)
    (v45 : V 45 t = nI fr) (v48 : V 48 t = nI su) (v49 : V 49 t = nI nu) :
    INV rg pl (sac V (20 * s0 + b0) t dc) (mce M (20 * s0 + b0) dc fr su nu) f n ∧ mce M (20 * s0 + b0) dc fr su nu 26 0 = M 26 0 := by
  obtain ⟨q1, q2, q3, q4, q5, q6⟩ := id hD
  obtain ⟨⟨a36, a38, a39, a40⟩, hAA⟩ := id hA
  have hnone : wts V (20 * s0 + b0) t (nI 2) = 0 → mce M (20 * s0 + b0) dc fr su nu = M → INV rg pl (sac V (20 * s0 + b0) t dc) (mce M (20 * s0 + b0) dc fr su nu) f n ∧ mce M (20 * s0 + b0) dc fr su nu 26 0 = M 26 0 := by
    intro e1 e2
    refine ⟨?_, by rw [e2]⟩
    rw [e2]; unfold sac; rw [if_pos e1]; exact h
  rcases hAA with hz0 | ⟨⟨hd12, h11, h2s⟩, ⟨nu', hn1, hn2, h14⟩, ⟨an, han, h16⟩, hpp, ⟨rf, hrf, h41, h20⟩, hph⟩
  · refine hnone ?_ ?_
    · unfold wts; rw [if_neg]; · rfl
      intro z; have := z.1; rw [a39, hz0.2.2.1] at this; exact absurd this (by decide +kernel)
    · unfold mce; rw [if_pos (Or.inl (hz0.1.trans nI_0))]
  · have h11n : ¬ M 11 (20 * s0 + b0) = 0 := by rw [h11]; exact nI_ne0 (by omega) (by omega)
    by_cases hw : M 15 (20 * s0 + b0) = nI 2 ∧ su = dc + 1 ∧ nu' = nu
    · obtain ⟨h15, hsu', hnu'⟩ := hw
      subst hnu'
      have hwt : ¬ wts V (20 * s0 + b0) t (nI 2) = 0 := by
        unfold wts; rw [if_pos ⟨a39.trans h15, by rw [v48, a36, h11, hsu'], by rw [v49, a38, h14]⟩]; decide +kernel
      obtain ⟨an', han', hor⟩ := ans_or han hfr
      have hL : mce M (20 * s0 + b0) dc fr su nu' = if hwm (nI an') = 0 then mu M 16 (20 * s0 + b0) (nI an') else mln (mu M 16 (20 * s0 + b0) (nI an')) (20 * s0 + b0) dc (M 12 (20 * s0 + b0)) (M 13 (20 * s0 + b0)) := by
        unfold mce
        rw [if_neg (fun z => z.elim h11n (fun z => z (by rw [h11, hsu']))), if_neg (fun z => z.elim (fun z => z h14.symm) (fun z => z h15)), h16, hor]
      have v40 : sca V (20 * s0 + b0) t 40 (20 * s0 + b0) = nI an' := by rw [sca_40, a40, h16, v45, hor]
      have hDK2 : DKv (sca V (20 * s0 + b0) t) (mu M 16 (20 * s0 + b0) (nI an')) (20 * s0 + b0) s0 b0 dc pr ac g := DKv_cg (fun k hk => sca_x (by omega)) (fun j => sca_x (by omega)) (fun k i hk => mu_k (by omega)) hD
      have hAK2 : AKv (sca V (20 * s0 + b0) t) (mu M 16 (20 * s0 + b0) (nI an')) (20 * s0 + b0) s0 dc := by
        refine ⟨⟨?_, ?_, ?_, v40.trans mu_s.symm⟩, Or.inr ⟨⟨hd12, ?_, ?_⟩, ⟨nu', hn1, hn2, ?_⟩, ⟨an', han', mu_s⟩, ?_, ⟨rf, hrf, ?_, ?_⟩, Or.inl ?_⟩⟩
        · rw [sca_x (by decide), mu_k (by decide)]; exact a36
        · rw [sca_x (by decide), mu_k (by decide)]; exact a38
        · rw [sca_x (by decide), mu_k (by decide)]; exact a39
        · rw [mu_k (by decide)]; exact h11
        · rw [mu_k (by decide)]; exact h2s
        · rw [mu_k (by decide)]; exact h14
        · rw [sca_x (by decide), mu_k (by decide), mu_k (by decide)]; exact hpp
        · rw [sca_x (by decide)]; exact h41
        · rw [mu_k (by decide)]; exact h20
        · rw [mu_k (by decide)]; exact h15
      have hI2 : INV rg pl (sca V (20 * s0 + b0) t) (mu M 16 (20 * s0 + b0) (nI an')) f n :=
        INV_dsk hs hb hr (fun k i h1 h2 => sca_o (by omega)) (fun k i h1 h2 h3 => mu_o (by omega)) ⟨dc, pr, ac, g, hDK2, hAK2⟩ h
      have hbits : hwc (nI an') = hwm (nI an') := bits_2 (fun _ _ => rfl)
      rw [hL]
      unfold sac
      rw [if_neg hwt, v40, hbits]
      by_cases hcol : hwm (nI an') = 0
      · rw [if_pos hcol, if_pos hcol]
        exact ⟨hI2, mu_k (by decide)⟩
      · rw [if_neg hcol, if_neg hcol]
        have p37 : sca V (20 * s0 + b0) t 37 (20 * s0 + b0) = V 37 (20 * s0 + b0) := sca_x (by decide)
        rw [p37]
        obtain ⟨w1, w2, w3, w4, w5, w6, w7, w8⟩ := son_v (V := mu (mu (sca V (20 * s0 + b0) t) (100 + (20 * s0 + b0)) dc (V 37 (20 * s0 + b0))) 34 (20 * s0 + b0) (nI (dc + 1))) (d := 20 * s0 + b0)
        have hak : AK0 (mln (mu M 16 (20 * s0 + b0) (nI an')) (20 * s0 + b0) dc (M 12 (20 * s0 + b0)) (M 13 (20 * s0 + b0))) (20 * s0 + b0) := mln_ak (Or.inr ((mu_k (by decide)).trans h11))
        refine ⟨INV_dsk hs hb hr (fun k i h1 h2 => ?_) (fun k i h1 h2 h3 => (mln_x (by omega) (by omega)).trans (mu_o (by omega))) ⟨dc + 1, 0, 0, g, ⟨⟨by omega, Nat.zero_le _, Nat.zero_le _, q1.2.2.2⟩, ⟨?_, ?_⟩, ⟨?_, w1, w2, ?_⟩, ⟨mln_3, mln_4.1, mln_4.2, ?_⟩, ?_, Or.inl ⟨rfl, w3⟩⟩, ⟨w4.trans hak.1.symm, w5.trans hak.2.1.symm, w6.trans hak.2.2.1.symm, w7.trans hak.2.2.2.symm⟩, Or.inl hak⟩ h, ?_⟩
        · rw [son_o (by omega), mu_o (by omega), mu_o (by omega)]; exact sca_o (by omega)
        · rw [son_o (by omega), mu_k (by omega), mu_k (by omega), sca_x (by decide)]; exact q2.1
        · rw [son_o (by omega), mu_k (by omega), mu_k (by omega), sca_x (by decide)]; exact q2.2
        · rw [son_34, mu_s]
        · rw [w8, mu_k (by omega), mu_k (by omega), sca_x (by decide)]; exact q3.2.2.2
        · rw [mln_x (by omega) (by omega), mu_k (by omega)]; exact q4.2.2.2
        · intro j hj
          rw [son_o (by omega), mu_k (by omega)]
          by_cases hj2 : j = dc
          · subst hj2
            rw [mu_s, mln_9.1, mln_9.2]; exact hpp
          · rw [mu_i hj2, sca_x (by omega), mln_x (by omega) (by omega), mln_x (by omega) (by omega), mu_k (by omega), mu_k (by omega)]; exact q5 j (by omega)
        · rw [mln_x (by omega) (by omega), mu_k (by omega)]
    · refine hnone ?_ ?_
      · unfold wts; rw [if_neg]; · rfl
        rintro ⟨z1, z2, z3⟩
        refine hw ⟨a39.symm.trans z1, ?_, ?_⟩
        · rw [v48, a36, h11] at z2; exact (nI_eq (by omega) (by omega)).mp z2
        · rw [v49, a38, h14] at z3; exact ((nI_eq (by omega) (by omega)).mp z3).symm
      · unfold mce
        by_cases e1 : M 11 (20 * s0 + b0) = nI su
        · rw [if_neg (fun z => z.elim h11n (fun z => z e1))]
          rw [if_pos]
          by_cases e2 : nI nu = M 14 (20 * s0 + b0)
          · refine Or.inr (fun e3 => hw ⟨e3, ?_, ?_⟩)
            · rw [h11] at e1; exact ((nI_eq (by omega) (by omega)).mp e1).symm
            · rw [h14] at e2; exact ((nI_eq (by omega) (by omega)).mp e2).symm
          · exact Or.inl e2
        · rw [if_pos (Or.inr e1)]
theorem SIM_rf {s0 b0 dc pr ac g su mo t : Nat} (h : INV rg pl V M f n) (hs : s0 < 25) (hb : b0 < 20) (hr : rg b0 = true) (hD : DKv V M (20 * s0 + b0) s0 b0 dc pr ac g) (hA : AKv V M (20 * s0 + b0) s0 dc) (hsu : su ≤ 13) (hmo : mo ≤ 25024) (v48 : V 48 t = nI su) (v50 : V 50 t = nI mo) :
    INV rg pl (shr V (20 * s0 + b0) t) (mre M (20 * s0 + b0) su mo) f n ∧ mre M (20 * s0 + b0) su mo 26 0 = M 26 0 := by
  obtain ⟨⟨a36, a38, a39, a40⟩, hAA⟩ := id hA
  rcases hAA with hz0 | ⟨⟨hd12, h11, h2s⟩, ⟨nu', hn1, hn2, h14⟩, ⟨an, han, h16⟩, hpp, ⟨rf, hrf, h41, h20⟩, hph⟩
  · unfold shr mre
    rw [if_pos (Or.inl (hz0.1.trans nI_0)), if_neg (fun z => z.1 (by rw [a39, hz0.2.2.1, nI_0]))]
    exact ⟨h, rfl⟩
  · have h11n : ¬ M 11 (20 * s0 + b0) = 0 := by rw [h11]; exact nI_ne0 (by omega) (by omega)
    have h39 : ¬ V 39 (20 * s0 + b0) = 0 := by
      rw [a39]
      rcases hph with z | z
      · rw [z]; decide +kernel
      · rw [z.1]; decide +kernel
    by_cases e1 : su = dc + 1
    · have es : shr V (20 * s0 + b0) t = mu V 41 (20 * s0 + b0) (if V 41 (20 * s0 + b0) < V 50 t then V 50 t else V 41 (20 * s0 + b0)) := if_pos ⟨h39, by rw [v48, a36, h11, e1]⟩
      have em : mre M (20 * s0 + b0) su mo = if M 20 (20 * s0 + b0) < nI mo then mu M 20 (20 * s0 + b0) (nI mo) else M := if_neg (fun z => z.elim h11n (fun z => z (by rw [h11, e1])))
      rw [es, em, h41, v50, h20]
      by_cases hlt : rf < mo
      · have hlt' : nI rf < nI mo := (nI_ltI (by omega) (by omega)).mpr hlt
        rw [if_pos hlt', if_pos hlt']
        refine ⟨INV_dsk hs hb hr (fun k i h1 h2 => mu_o (by omega)) (fun k i h1 h2 h3 => mu_o (by omega)) ⟨dc, pr, ac, g, DKv_cg (fun k hk => mu_k (by omega)) (fun j => mu_k (by omega)) (fun k i hk => mu_k (by omega)) hD, ⟨?_, ?_, ?_, ?_⟩, Or.inr ⟨⟨hd12, ?_, ?_⟩, ⟨nu', hn1, hn2, ?_⟩, ⟨an, han, ?_⟩, ?_, ⟨mo, hmo, mu_s, mu_s⟩, ?_⟩⟩ h, mu_k (by decide)⟩
        · rw [mu_k (by decide), mu_k (by decide)]; exact a36
        · rw [mu_k (by decide), mu_k (by decide)]; exact a38
        · rw [mu_k (by decide), mu_k (by decide)]; exact a39
        · rw [mu_k (by decide), mu_k (by decide)]; exact a40
        · rw [mu_k (by decide)]; exact h11
        · rw [mu_k (by decide)]; exact h2s
        · rw [mu_k (by decide)]; exact h14
        · rw [mu_k (by decide)]; exact h16
        · rw [mu_k (by decide), mu_k (by decide), mu_k (by decide)]; exact hpp
        · rw [mu_k (by decide), mu_k (by decide), mu_k (by decide), mu_k (by decide), mu_k (by decide), mu_k (by decide)]; exact hph
      · have hlt' : ¬ nI rf < nI mo := fun z => hlt ((nI_ltI (by omega) (by omega)).mp z)
        rw [if_neg hlt', if_neg hlt']
        have : mu V 41 (20 * s0 + b0) (nI rf) = V := by rw [← h41]; exact mu_same
        rw [this]
        exact ⟨h, rfl⟩
    · have es : shr V (20 * s0 + b0) t = V := if_neg (fun z => e1 (by have := z.2; rw [v48, a36, h11] at this; exact (nI_eq (by omega) (by omega)).mp this))
      have em : mre M (20 * s0 + b0) su mo = M := if_pos (Or.inr (fun z => e1 (by rw [h11] at z; exact ((nI_eq (by omega) (by omega)).mp z).symm)))
      rw [es, em]
      exact ⟨h, rfl⟩
theorem mcm_13 {a dc c2 kd s0 b0 fr su nu : Nat} (hk : kd = 1 ∨ kd = 3) (m1 : M 23 1 = nI fr) (m4 : M 23 4 = nI su) (m5 : M 23 5 = nI nu) : mcm M n a dc c2 kd s0 b0 = mae (mla M a dc (c2 - dc)) n a (mx dc c2) kd s0 b0 fr su nu := by
  unfold mcm mae
  rw [if_pos hk, m1, m4, m5]
theorem mcm_2 {a dc c2 s0 b0 fr su nu : Nat} (m1 : M 23 1 = nI fr) (m4 : M 23 4 = nI su) (m5 : M 23 5 = nI nu) : mcm M n a dc c2 2 s0 b0 = mpe (mla M a dc (c2 - dc)) n a (mx dc c2) s0 b0 fr su nu := by
  unfold mcm mpe
  rw [if_neg (by decide), m1, m4, m5]
  by_cases d1 : mla M a dc (c2 - dc) 11 a = 0 ∨ ¬ mla M a dc (c2 - dc) 11 a = nI su
  · rw [if_pos (Or.inr d1), if_pos d1]
  · rw [if_neg (fun z => z.elim (by decide) d1), if_neg d1, if_neg (by decide)]
    rfl
theorem mcm_4 {a dc c2 s0 b0 fr su nu : Nat} (m1 : M 23 1 = nI fr) (m4 : M 23 4 = nI su) (m5 : M 23 5 = nI nu) : mcm M n a dc c2 4 s0 b0 = mce (mla M a dc (c2 - dc)) a (mx dc c2) fr su nu := by
  unfold mcm mce
  rw [if_neg (by decide), m1, m4, m5]
  by_cases d1 : mla M a dc (c2 - dc) 11 a = 0 ∨ ¬ mla M a dc (c2 - dc) 11 a = nI su
  · rw [if_pos (Or.inr d1), if_pos d1]
  · rw [if_neg (fun z => z.elim (by decide) d1), if_neg d1, if_neg (by decide), mla_o (k := 12) (by decide), mla_o (k := 13) (by decide)]
    rfl
theorem mcm_5 {a dc c2 s0 b0 su mo : Nat} (m4 : M 23 4 = nI su) (m6 : M 23 6 = nI mo) : mcm M n a dc c2 5 s0 b0 = mre (mla M a dc (c2 - dc)) a su mo := by
  unfold mcm mre
  rw [if_neg (by decide), m4, m6]
  by_cases d1 : mla M a dc (c2 - dc) 11 a = 0 ∨ ¬ mla M a dc (c2 - dc) 11 a = nI su
  · rw [if_pos (Or.inr d1), if_pos d1]
  · rw [if_neg (fun z => z.elim (by decide) d1), if_neg d1, if_pos rfl, mla_o (k := 20) (by decide)]
theorem mcm_6 {a dc c2 s0 b0 : Nat} : mcm M n a dc c2 6 s0 b0 = mla M a dc (c2 - dc) := by
  unfold mcm
  rw [if_neg (by decide), if_pos (Or.inl rfl)]
theorem INV_lost (h : INV rg pl V M f n) : INV rg pl (mu V 57 0 (V 57 0 + nI 1)) (mu M 25 0 (M 25 0 + nI 1)) f n := by
  obtain ⟨⟨⟨r1, r2, r3, r4, r5⟩, r6, r7, ⟨r8, r9, r10⟩, r11⟩, hrest⟩ := id h
  refine INV_row ?_ (fun k i hk => mu_k (by omega)) (fun k i hk => mu_k (by omega)) h
  refine ⟨⟨(mu_k (by decide)).trans r1, r2, (mu_k (by decide)).trans r3, r4, r5⟩, (mu_k (by decide)).trans r6, r7, ⟨?_, ?_, ?_⟩, fun i hi => ?_⟩
  · rw [mu_k (by decide), mu_k (by decide)]; exact r8
  · rw [mu_s, mu_s, r9]
  · rw [mu_k (by decide), mu_k (by decide)]; exact r10
  · obtain ⟨kd', fr', to', b', su', nu', mo', c2', hv⟩ := r11 i hi
    exact ⟨kd', fr', to', b', su', nu', mo', c2', LTv_move hv (fun q q1 q2 => mu_k (by omega)) (fun q hq => mu_k (by omega)) (fun q hq => mu_k (by decide))⟩
/-- what the model makes of a letter in hand -/
noncomputable def mhn (M : fV) (n a dc c2 kd s0 b0 : Nat) : fV := if M 2 s0 = 0 then mcm M n a dc c2 kd s0 b0 else mu M 25 0 (M 25 0 + nI 1)
/-- a letter in hand is handed over -/
theorem SIM_hand {t kd fr s0 b0 su nu mo c2 dcC dcM : Nat} (h : INV rg pl V M f n) (hH : HND rg V M t kd fr s0 b0 su nu mo c2) (ht : t < 101) (hC : V 34 (dx rg s0 b0) = nI dcC) (hCl : dcC ≤ 12) (hM3 : M 3 (20 * s0 + b0) = nI dcM) (hMl : dcM ≤ 12) :
    dcC = dcM ∧ (∃ n', INV rg pl (shoV pl f n dcC c2 V (dx rg s0 b0) t kd s0) (mhn M n (20 * s0 + b0) dcM c2 kd s0 b0) f n') ∧
    mhn M n (20 * s0 + b0) dcM c2 kd s0 b0 26 0 = M 26 0 + shoR dcC c2 V (dx rg s0 b0) t kd s0 := by
  obtain ⟨hk, ⟨v44, v45, v46, v47, v48, v49, v50, v52⟩, -⟩ := id hH
  obtain ⟨⟨m0, m1, m2, m3, m4, m5, m6, m9⟩, hq, hps⟩ := HND_out hH
  obtain ⟨k1, k2, k3, k4, k5, k6, k7, k8, k9, k10, k11, k12, k13⟩ := id hk
  have hz : ∀ v : Int32, v = v + nI 0 := fun v => by rw [nI_0, Int32.add_zero]
  have hdown : ∀ d nc, upb V (nI s0) = false → M 2 s0 = nI 1 → (∃ n', INV rg pl (shoV pl f n nc c2 V d t kd s0) (mhn M n (20 * s0 + b0) dcM c2 kd s0 b0) f n') ∧ mhn M n (20 * s0 + b0) dcM c2 kd s0 b0 26 0 = M 26 0 + shoR nc c2 V d t kd s0 := by
    intro d nc u1 u2
    have e1 : shoV pl f n nc c2 V d t kd s0 = mu V 57 0 (V 57 0 + nI 1) := if_neg (by rw [u1]; decide)
    have e2 : mhn M n (20 * s0 + b0) dcM c2 kd s0 b0 = mu M 25 0 (M 25 0 + nI 1) := if_neg (by rw [u2]; decide +kernel)
    have e3 : shoR nc c2 V d t kd s0 = nI 0 := if_neg (by rw [u1]; decide)
    rw [e1, e2, e3]
    exact ⟨⟨n, INV_lost h⟩, (mu_k (by decide)).trans (hz _)⟩
  cases hrg : rg b0 with
  | false =>
    have hdx : dx rg s0 b0 = 500 := if_neg (by rw [hrg]; decide)
    have hkd : kd = 6 := by
      by_cases e : kd = 6
      · exact e
      · have := k10 e; rw [hrg] at this; cases this
    have hc0 : c2 = 0 := k13 hrg
    have hd0 := h.2.1.2.1 s0 b0 k4 k5 hrg
    have e1 : dcC = 0 := by
      rw [hdx, h.2.1.2.2.1] at hC
      exact ((nI_eq (by omega) (by omega)).mp hC).symm
    have e2 : dcM = 0 := by
      rw [hd0.1.1] at hM3
      exact ((nI_eq (by omega) (by omega)).mp hM3).symm
    refine ⟨by omega, ?_⟩
    rcases h.2.2.1 s0 k4 with ⟨u1, u2⟩ | ⟨u1, u2⟩
    · subst hkd; subst hc0; subst e1; subst e2
      have f1 : shoV pl f n 0 0 V (dx rg s0 b0) t 6 s0 = V := if_pos u1
      have f2 : mhn M n (20 * s0 + b0) 0 0 6 s0 b0 = M := by
        unfold mhn
        rw [if_pos (u2.trans nI_0), mcm_6]
        rfl
      have f3 : shoR 0 0 V (dx rg s0 b0) t 6 s0 = nI 0 := if_pos u1
      rw [f1, f2, f3]
      exact ⟨⟨n, h⟩, hz _⟩
    · exact hdown _ _ u1 u2
  | true =>
    have hdx : dx rg s0 b0 = 20 * s0 + b0 := if_pos hrg
    rw [hdx] at hC ⊢
    obtain ⟨dc, pr, ac, g, hD, hA⟩ := h.2.1.1 s0 b0 k4 k5 hrg
    have e1 : dcC = dc := by
      have := hC.symm.trans hD.2.2.1.1
      exact (nI_eq (by omega) (by have := hD.1.1; omega)).mp this
    have e2 : dcM = dc := by
      have := hM3.symm.trans hD.2.2.2.1.1
      exact (nI_eq (by omega) (by have := hD.1.1; omega)).mp this
    refine ⟨by omega, ?_⟩
    rcases h.2.2.1 s0 k4 with ⟨u1, u2⟩ | ⟨u1, u2⟩
    · subst e1
      rw [e2]
      clear e2 hM3 hMl hdown
      obtain ⟨pr', ac', hI, hD1, hA1⟩ := SIM_learn h k4 k5 hrg hD hA k9 ht hps
      have oV : ∀ k i, 44 ≤ k ∧ k < 60 ∨ 1000 ≤ k → sla V (20 * s0 + b0) t dcC c2 k i = V k i := fun k i hk => sla_o (by omega) (by omega)
      have oM : ∀ k i, k < 3 ∨ 16 < k ∨ 6 ≤ k ∧ k ≤ 8 ∨ k = 12 ∨ k = 13 → mla M (20 * s0 + b0) dcC (c2 - dcC) k i = M k i := fun k i hk => mla_o hk _
      have o26 := oM 26 0 (by decide)
      have hmx : c2 ≤ mx dcC c2 := by unfold mx; split <;> omega
      have hq' : PQ (sla V (20 * s0 + b0) t dcC c2 51 t) (mla M (20 * s0 + b0) dcC (c2 - dcC) 23 7) (mla M (20 * s0 + b0) dcC (c2 - dcC) 23 8) (kd = 3 ∨ kd = 2 ∧ 0 < mo) := by
        rw [oV _ _ (by omega), oM _ _ (by decide), oM _ _ (by decide)]; exact hq
      have f1 : shoV pl f n dcC c2 V (20 * s0 + b0) t kd s0 = sho pl f n dcC c2 V (20 * s0 + b0) t kd := if_pos u1
      have f2 : mhn M n (20 * s0 + b0) dcC c2 kd s0 b0 = mcm M n (20 * s0 + b0) dcC c2 kd s0 b0 := if_pos (u2.trans nI_0)
      have f3 : shoR dcC c2 V (20 * s0 + b0) t kd s0 = if kd = 1 ∨ kd = 3 then nI 1 else if kd = 2 then scr (sla V (20 * s0 + b0) t dcC c2) (20 * s0 + b0) t else nI 0 := if_pos u1
      rw [f1, f2, f3]
      by_cases c13 : kd = 1 ∨ kd = 3
      · have g1 : sho pl f n dcC c2 V (20 * s0 + b0) t kd = saa pl f n (mx dcC c2) (sla V (20 * s0 + b0) t dcC c2) (20 * s0 + b0) t := if_pos c13
        rw [g1, mcm_13 c13 m1 m4 m5, if_pos c13]
        obtain ⟨r1, r2⟩ := SIM_aa (t := t) hI k4 k5 hrg hD1 hA1 hk c13 ((oV _ _ (by omega)).trans v44) ((oV _ _ (by omega)).trans v45) ((oV _ _ (by omega)).trans v46) ((oV _ _ (by omega)).trans v47) ((oV _ _ (by omega)).trans v48) ((oV _ _ (by omega)).trans v49) hq' (by have := k11 c13; omega)
        exact ⟨⟨_, r1⟩, r2.trans (by rw [o26])⟩
      · rw [if_neg c13]
        have kk : kd = 2 ∨ kd = 4 ∨ kd = 5 ∨ kd = 6 := by omega
        rcases kk with rfl | rfl | rfl | rfl
        · obtain ⟨n', r1, r2⟩ := SIM_cp (t := t) hI k4 k5 hrg hD1 hA1 hk rfl ((oV _ _ (by omega)).trans v45) ((oV _ _ (by omega)).trans v48) ((oV _ _ (by omega)).trans v49) ((oV _ _ (by omega)).trans v50) ((oM _ _ (by decide)).trans m6) hq'
          rw [mcm_2 m1 m4 m5, if_pos rfl]
          exact ⟨⟨n', r1⟩, r2.trans (by rw [o26])⟩
        · obtain ⟨r1, r2⟩ := SIM_ac (t := t) hI k4 k5 hrg hD1 hA1 k3 k6 k7 ((oV _ _ (by omega)).trans v45) ((oV _ _ (by omega)).trans v48) ((oV _ _ (by omega)).trans v49)
          rw [mcm_4 m1 m4 m5, if_neg (by decide)]
          exact ⟨⟨n, r1⟩, (r2.trans o26).trans (hz _)⟩
        · obtain ⟨r1, r2⟩ := SIM_rf (t := t) hI k4 k5 hrg hD1 hA1 k6 k8 ((oV _ _ (by omega)).trans v48) ((oV _ _ (by omega)).trans v50)
          rw [mcm_5 m4 m6, if_neg (by decide)]
          exact ⟨⟨n, r1⟩, (r2.trans o26).trans (hz _)⟩
        · rw [mcm_6, if_neg (by decide)]
          exact ⟨⟨n, hI⟩, o26.trans (hz _)⟩
    · exact hdown _ _ u1 u2
end SAC
