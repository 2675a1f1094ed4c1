/-! TAKING and COPYING a letter: the row of both goes on. -/
/-- where the place's letter was before the i-th one was taken -/
def tpi (f i x : Nat) : Nat := if x = 0 then (f + i) % 100 + 1 else if x = f + 1 then 0 else if (x + 99 - f) % 100 ≤ i then (x + 98) % 100 + 1 else x
theorem shf_at {pl : Nat → Nat} {f i x : Nat} (hf : f < 100) (hi : i < 100) (hx : x ≤ 100) : shf pl f i x = pl (if 1 ≤ x ∧ 1 ≤ (x + 99 - f) % 100 ∧ (x + 99 - f) % 100 ≤ i then (x + 98) % 100 + 1 else x) := by
  induction i generalizing pl with
  | zero => rw [if_neg (by omega)]; rfl
  | succ j ih =>
    unfold shf
    rw [ih (by omega)]
    unfold va_up
    by_cases h1 : 1 ≤ x ∧ 1 ≤ (x + 99 - f) % 100 ∧ (x + 99 - f) % 100 ≤ j
    · have h3 : 1 ≤ x ∧ 1 ≤ (x + 99 - f) % 100 ∧ (x + 99 - f) % 100 ≤ j + 1 := by omega
      have h4 : ¬ (x + 98) % 100 + 1 = (f + (j + 1)) % 100 + 1 := by omega
      rw [if_pos h1, if_pos h3, if_neg h4]
    · rw [if_neg h1]
      by_cases h2 : x = (f + (j + 1)) % 100 + 1
      · rw [if_pos h2, if_pos (by omega)]
        congr 1
        omega
      · rw [if_neg h2, if_neg (by omega)]
theorem tkp_at {pl : Nat → Nat} {f i x : Nat} (hf : f < 100) (hi : i < 100) (hx : x ≤ 100) : tkp pl f i x = pl (tpi f i x) := by
  unfold tkp tpi va_up
  by_cases h0 : x = 0
  · rw [if_pos h0, if_pos h0]
  · rw [if_neg h0, if_neg h0]
    by_cases h1 : x = f + 1
    · rw [if_pos h1, if_pos h1, shf_0]
    · rw [if_neg h1, if_neg h1, shf_at hf hi hx]
      by_cases h2 : (x + 99 - f) % 100 ≤ i
      · rw [if_pos h2, if_pos (by omega)]
      · rw [if_neg h2, if_neg (by omega)]
theorem tpi_le {f i x : Nat} (hf : f < 100) (hx : x ≤ 100) : tpi f i x ≤ 100 := by
  unfold tpi
  (repeat' split) <;> omega
theorem tpi_inj {f i x y : Nat} (hf : f < 100) (hi : i < 100) (hx : x ≤ 100) (hy : y ≤ 100) (h : tpi f i x = tpi f i y) : x = y := by
  unfold tpi at h
  (repeat' split at h) <;> omega
theorem INJ_take {pl : Nat → Nat} {f i : Nat} (h : INJ pl) (hf : f < 100) (hi : i < 100) : INJ (tkp pl f i) := by
  intro q q' h1 h2 he
  rw [tkp_at hf hi h1, tkp_at hf hi h2] at he
  exact tpi_inj hf hi h1 h2 (h _ _ (tpi_le hf h1) (tpi_le hf h2) he)
theorem slt_in {M : fV} {b n j : Nat} (h1 : b ≤ j) (h2 : j < b + n) : slt M b n 21 j = M 21 (j + 34) := by
  induction n with
  | zero => omega
  | succ n ih =>
    by_cases h : j = b + n
    · subst h; exact mu_s
    · exact (mu_i h).trans (ih (by omega))
theorem slt_lo {M : fV} {b n j : Nat} (h : j < b) : slt M b n 21 j = M 21 j := by
  induction n with
  | zero => rfl
  | succ n ih => exact (mu_i (by omega)).trans ih
theorem ROWI_take {rg : Nat → Bool} {pl : Nat → Nat} {V M : fV} {f n i : Nat} (h : ROWI rg pl V M f n) (hi : i < n) :
    ROWI rg (tkp pl f i) (mu (mu V 54 0 (nI ((f + 1) % 100))) 55 0 (nI (n - 1))) (mtk M i n) ((f + 1) % 100) (n - 1) := by
  obtain ⟨⟨hf, hf2, hn, hn2, hpl⟩, h22, hinj, ⟨t1, t2, t3⟩, hL⟩ := h
  refine ⟨⟨(mu_k (by decide)).trans mu_s, by omega, mu_s, by omega, tkp_lt hpl⟩, mtk_22, INJ_take hinj hf2 (by omega), ⟨?_, ?_, ?_⟩, ?_⟩
  · rw [mu_k (by decide), mu_k (by decide), mtk_o (by decide)]; exact t1
  · rw [mu_k (by decide), mu_k (by decide), mtk_o (by decide)]; exact t2
  · rw [mu_k (by decide), mu_k (by decide), mtk_o (by decide)]; exact t3
  · intro j hj
    have hp : tkp pl f i (((f + 1) % 100 + j) % 100 + 1) = pl ((f + (if j < i then j else j + 1)) % 100 + 1) := by
      rw [tkp_at hf2 (by omega) (by omega)]
      congr 1
      unfold tpi
      (repeat' split) <;> omega
    rw [hp]
    obtain ⟨kd', fr', to', b', su', nu', mo', c2', hv⟩ := hL (if j < i then j else j + 1) (by split <;> omega)
    refine ⟨kd', fr', to', b', su', nu', mo', c2', LTv_move hv (fun q q1 q2 => ?_) (fun q hq => ?_) (fun q hq => ?_)⟩
    · rw [mu_k (by omega), mu_k (by omega)]
    · rw [mu_k (by omega), mu_k (by omega)]
    · unfold mtk
      by_cases h1 : j < i
      · rw [if_pos h1, slt_lo (by omega), mu_k (by decide), chd_o (by decide)]
      · rw [if_neg h1, slt_in (by omega) (by omega), mu_k (by decide), chd_o (by decide)]
        congr 1
        omega
theorem ccp_in {M : fV} {i n j q : Nat} (h : q < j) : ccp M i n j 21 (34 * n + q) = M 21 (34 * i + q) := by
  induction j with
  | zero => omega
  | succ j ih =>
    by_cases h1 : q = j
    · subst h1; exact mu_s
    · exact (mu_i (by omega)).trans (ih (by omega))
theorem ROWI_copy {rg : Nat → Bool} {pl : Nat → Nat} {V M : fV} {f n i nc : Nat} (h : ROWI rg pl V M f n) (hi : i < n) (hn : n < 100) (hc : V 52 (pl ((f + i) % 100 + 1)) = nI nc) (hnc : nc ≤ 12) :
    ROWI rg pl (rpt pl f n i nc V) (mu (ccp (mu M 27 0 (nI 0)) i n 34) 22 0 (nI (n + 1))) f (n + 1) := by
  obtain ⟨⟨hf, hf2, hn1, hn2, hpl⟩, h22, hinj, ⟨t1, t2, t3⟩, hL⟩ := h
  have hx := hpl ((f + n) % 100 + 1) (by omega)
  have hy := hpl ((f + i) % 100 + 1) (by omega)
  have hxy : pl ((f + i) % 100 + 1) ≠ pl ((f + n) % 100 + 1) := fun e => by
    have := hinj _ _ (by omega) (by omega) e
    omega
  unfold rpt
  rw [if_pos hn]
  refine ⟨⟨?_, hf2, mu_s, by omega, hpl⟩, mu_s, hinj, ⟨?_, ?_, ?_⟩, ?_⟩
  · rw [mu_k (by decide), slb_o (by omega) (by omega)]; exact hf
  · rw [mu_k (by decide), slb_o (by omega) (by omega), mu_k (by decide), ccp_o (by decide), mu_k (by decide)]; exact t1
  · rw [mu_k (by decide), slb_o (by omega) (by omega), mu_k (by decide), ccp_o (by decide), mu_k (by decide)]; exact t2
  · rw [mu_k (by decide), slb_o (by omega) (by omega), mu_k (by decide), ccp_o (by decide), mu_k (by decide)]; exact t3
  · intro j hj
    by_cases h1 : j < n
    · have hz := hpl ((f + j) % 100 + 1) (by omega)
      have hne : pl ((f + j) % 100 + 1) ≠ pl ((f + n) % 100 + 1) := fun e => by
        have := hinj _ _ (by omega) (by omega) e
        omega
      obtain ⟨kd', fr', to', b', su', nu', mo', c2', hv⟩ := hL j h1
      refine ⟨kd', fr', to', b', su', nu', mo', c2', LTv_move hv (fun q q1 q2 => ?_) (fun q hq => ?_) (fun q hq => ?_)⟩
      · rw [mu_k (by omega), slb_o (by omega) (by omega)]
      · rw [mu_k (by omega), slb_o (by omega) (by omega)]
      · rw [mu_k (by decide), ccp_lo (by omega), mu_k (by decide)]
    · obtain rfl : j = n := by omega
      obtain ⟨kd', fr', to', b', su', nu', mo', c2', hv⟩ := hL i hi
      have hcc : c2' = nc := by
        have h2 := hv.2.1.2.2.2.2.2.2.2
        rw [hc] at h2
        have h3 := hv.1.2.2.2.2.2.2.2.2.1
        exact ((nI_eq (by omega) (by omega)).mp h2).symm
      subst hcc
      refine ⟨kd', fr', to', b', su', nu', mo', c2', LTv_move hv (fun q q1 q2 => ?_) (fun q hq => ?_) (fun q hq => ?_)⟩
      · rw [mu_k (by omega)]
        by_cases h52 : q = 52
        · subst h52; rw [slb_52 (by omega)]; exact hc.symm
        · rw [slb_v (by omega) q1 (by omega)]
      · rw [mu_k (by omega), slb_p hq]
      · rw [mu_k (by decide), ccp_in hq, mu_k (by decide)]
