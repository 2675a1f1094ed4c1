/-! HANDING OVER, AND THE PUBLIC METHODS over the flat state. -/
theorem sen_41 {V : fV} {d : Nat} : sen V d 41 d = nI 0 := by
  unfold sen sfg
  rw [mu_o (by omega), mu_o (by omega), mu_o (by omega), mu_s]
theorem sla_o {V : fV} {d t nc n2 k i : Nat} (h : k < 30 ∨ 43 < k) (h2 : k ≠ 100 + d) : sla V d t nc n2 k i = V k i := by
  unfold sla
  split
  · rw [son_o (by omega), amg_o h2 (by omega)]
  · rfl
theorem son_34 {V : fV} {d i : Nat} : son V d 34 i = V 34 i := by
  unfold son
  rw [sen_o (by omega)]
  repeat rw [mu_o (by omega)]
theorem sla_34 {V : fV} {d t nc n2 : Nat} (h : V 34 d = nI nc) : sla V d t nc n2 34 d = nI (mx nc n2) := by
  unfold sla mx
  split
  · rw [son_34, amg_34 h]
    congr 1
    omega
  · exact h
theorem son_39 {V : fV} {d : Nat} : son V d 39 d = nI 0 := by
  unfold son sen sfg
  rw [mu_o (by omega), mu_o (by omega), mu_o (by omega), mu_o (by omega), mu_s]
theorem sla_12 {V : fV} {d t nc n2 : Nat} (h : ¬ V 39 d = 0 → nc < 12) (hw : ¬ wts (sla V d t nc n2) d t (nI 2) = 0) : mx nc n2 < 12 := by
  have h1 : sla V d t nc n2 39 d = nI 2 := by
    unfold wts at hw
    split at hw
    · rename_i h2; exact h2.1
    · exact absurd rfl hw
  unfold sla at h1
  unfold mx
  by_cases h2 : nc < n2
  · rw [if_pos h2, son_39] at h1
    exact absurd h1 (by decide +kernel)
  · rw [if_neg h2] at h1
    rw [if_neg h2]
    exact h (by rw [h1]; decide +kernel)
theorem shf_0 {pl : Nat → Nat} {f j : Nat} : shf pl f j 0 = pl 0 := by
  induction j generalizing pl with
  | zero => rfl
  | succ j ih =>
    unfold shf
    rw [ih]
    exact if_neg (by omega)
theorem shf_lt {pl : Nat → Nat} {f j : Nat} (h : ∀ q, q ≤ 100 → pl q < 101) : ∀ q, q ≤ 100 → shf pl f j q < 101 := by
  induction j generalizing pl with
  | zero => exact h
  | succ j ih => exact ih (up_lt1 h (h _ (by omega)))
theorem tkp_lt {pl : Nat → Nat} {f i : Nat} (h : ∀ q, q ≤ 100 → pl q < 101) : ∀ q, q ≤ 100 → tkp pl f i q < 101 :=
  up_lt1 (up_lt1 (shf_lt h) (by rw [shf_0]; exact h 0 (by decide))) (h _ (by omega))
def sho (pl : Nat → Nat) (f n nc n2 : Nat) (V : fV) (d t kd : Nat) : fV :=
  if kd = 1 ∨ kd = 3 then saa pl f n (mx nc n2) (sla V d t nc n2) d t else if kd = 2 then scp pl f n (mx nc n2) (sla V d t nc n2) d t else if kd = 4 then sac (sla V d t nc n2) d t (mx nc n2) else if kd = 5 then shr (sla V d t nc n2) d t else sla V d t nc n2
def shoV (pl : Nat → Nat) (f n nc n2 : Nat) (V : fV) (d t kd a0 : Nat) : fV := if upb V (nI a0) = true then sho pl f n nc n2 V d t kd else mu V 57 0 (V 57 0 + nI 1)
def shoR (nc n2 : Nat) (V : fV) (d t kd a0 : Nat) : Int32 := if upb V (nI a0) = true then (if kd = 1 ∨ kd = 3 then nI 1 else if kd = 2 then scr (sla V d t nc n2) d t else nI 0) else nI 0
theorem in_ok {j n : Nat} (h : j < n) (hn : n < 2 ^ 31) : ¬ (nI j < 0 ∨ nI n ≤ nI j) := by
  rintro (h1 | h1)
  · exact nI_pos (by omega) h1
  · exact absurd ((nI_leI hn (by omega)).mp h1) (by omega)
theorem wi_ok {j a b : Nat} (h : a ≤ j) (h2 : j ≤ b) (hb : b < 2 ^ 31) : ¬ (nI j < nI a ∨ nI b < nI j) := by
  rintro (h1 | h1)
  · exact absurd ((nI_ltI (by omega) (by omega)).mp h1) (by omega)
  · exact absurd ((nI_ltI hb (by omega)).mp h1) (by omega)
set_option maxRecDepth 100000 in
set_option maxHeartbeats 4000000 in
theorem kk_G_handOver {l : Launch} {D : va_G} {ar : Nat → ClassId} {base : Nat} {σ : mp_M} {ad : Nat → Nat → Nat} {rg : Nat → Bool} {pl : Nat → Nat} {V M : fV} {f n a0 b0 d t nc n2 kd : Nat} (hL : Lay ar ad rg pl V M σ) (hrw : RW pl V f n) (ha : a0 < 25) (hb : b0 < 20) (hdx : dx rg a0 b0 = d) (ht : t < 101) (hto : V 46 t = nI a0) (hpr : V 47 t = nI b0) (hkd : V 44 t = nI kd) (hkl : kd < 7) (hc : V 34 d = nI nc) (hc2 : nc ≤ 12) (hc3 : V 52 t = nI n2) (hc4 : n2 ≤ 12) (h12 : ¬ V 39 d = 0 → nc < 12) : CN l D ar base yy_sg_handOver prog_1_method_28_code 3 (Option.some Jvm.ClassFile.FieldType.int) [] 5 72 0 0 [.ref (ad 0 0), .ref (ad 4 t)] σ (fun o σ' _ => o = .returned (some (.int (shoR nc n2 V d t kd a0))) ∧ Lay ar ad rg pl (shoV pl f n nc n2 V d t kd a0) M σ') := by
  refine mp_in (Nat.le_of_ble_eq_true rfl) ?_
  intro p e R s m below meth c x hfr hlo hce hsl hr hlk hin hex hG hB ls H hH0 hH hS hl
  have hl : lv_has ls 3 [(0, .ref (ad 0 0)), (1, .ref (ad 4 t))] := hl
  obtain ⟨hf, hf2, hn, hn2, hpl⟩ := id hrw
  have hd : dk rg d := hdx ▸ dx_dk ha hb
  have hd5 := dk_le hd
  cases hu : upb V (nI a0) with
  | false =>
    skip
    refine lv_aload_n x.1 x.2.1 dd_sg_handOver_0 rfl (lv_at hl 0 rfl) ?_
    refine lv_aload_n x.1 x.2.1 dd_sg_handOver_1 rfl (lv_at hl 1 rfl) ?_
    refine mp_get x hH (la4 hL (Nat.lt_trans ht (by decide))) fg_sg_231 rfl dd_sg_handOver_2 ?_
    refine mn_top (w := nI a0) (hto) ?_
    refine mp_call x (wt_mv base) hG hB hl.1 (mp_invV (av := [.int (nI a0)]) x hH (la0 hL) rfl rfl mn_sg_isUp mc_sg_isUp (Or.inl ww_435) ww_437 ww_4 rfl dd_sg_handOver_5) (kk_G_isUp hL) (Nat.le_trans (Nat.le_of_ble_eq_true rfl) hfr) (Nat.le_trans (Nat.le_of_ble_eq_true rfl) hlo) (Nat.le_trans (Nat.le_of_ble_eq_true rfl) hce) (Nat.le_trans (Nat.le_of_ble_eq_true rfl) hsl) hH hS (fun v σa t0 H locs hp162 ht0 hvm hzz hH hS => ?_) (fun _ _ _ _ _ hz _ _ _ _ _ => by cases hz.1)
    obtain ⟨ho, hσ⟩ := hp162
    cases ho
    rw [hσ] at hH
    refine W.eq (g2 := F0 m 8 ls [.int (if upb V (nI a0) = true then nI 1 else nI 0)]) rfl ?_
    refine mn_top (w := nI 0) (if_neg (by rw [hu]; decide)) ?_
    refine lv_if_ne (tgt := 26) x.1 x.2.1 dd_sg_handOver_8 (by decide) (fun c163 => absurd (by decide +kernel) c163) (fun c163 => ?_)
    refine lv_aload_n x.1 x.2.1 dd_sg_handOver_11 rfl (lv_at hl 0 rfl) ?_
    refine mp_get x hH (la0 hL) fg_sg_27 rfl dd_sg_handOver_12 ?_
    refine lv_dup x.1 x.2.1 dd_sg_handOver_15 rfl ?_
    refine mp_get x hH (la2 hL) fg_sg_181 rfl dd_sg_handOver_16 ?_
    refine lv_iconst (v := nI 1) x.1 x.2.1 dd_sg_handOver_19 (by decide +kernel) ?_
    refine lv_iadd x.1 x.2.1 dd_sg_handOver_20 ?_
    refine kp_57 x hH hS hL fp_sg_181 dd_sg_handOver_21 (fun σ hL H locs hH hS => ?_)
    refine lv_iconst (v := nI 0) x.1 x.2.1 dd_sg_handOver_24 (by decide +kernel) ?_
    exact mp_ri x hr hlk (by decide) (by decide) hH hS (fun _ => ⟨(congrArg (fun z => Outcome.returned (some (.int z))) ((if_neg (by rw [hu]; decide)).symm)), by unfold shoV; rw [if_neg (by rw [hu]; decide)]; exact hL⟩) dd_sg_handOver_25
  | true =>
    skip
    refine lv_aload_n x.1 x.2.1 dd_sg_handOver_0 rfl (lv_at hl 0 rfl) ?_
    refine lv_aload_n x.1 x.2.1 dd_sg_handOver_1 rfl (lv_at hl 1 rfl) ?_
    refine mp_get x hH (la4 hL (Nat.lt_trans ht (by decide))) fg_sg_231 rfl dd_sg_handOver_2 ?_
    refine mn_top (w := nI a0) (hto) ?_
    refine mp_call x (wt_mv base) hG hB hl.1 (mp_invV (av := [.int (nI a0)]) x hH (la0 hL) rfl rfl mn_sg_isUp mc_sg_isUp (Or.inl ww_435) ww_437 ww_4 rfl dd_sg_handOver_5) (kk_G_isUp hL) (Nat.le_trans (Nat.le_of_ble_eq_true rfl) hfr) (Nat.le_trans (Nat.le_of_ble_eq_true rfl) hlo) (Nat.le_trans (Nat.le_of_ble_eq_true rfl) hce) (Nat.le_trans (Nat.le_of_ble_eq_true rfl) hsl) hH hS (fun v σa t0 H locs hp164 ht0 hvm hzz hH hS => ?_) (fun _ _ _ _ _ hz _ _ _ _ _ => by cases hz.1)
    obtain ⟨ho, hσ⟩ := hp164
    cases ho
    rw [hσ] at hH
    refine W.eq (g2 := F0 m 8 ls [.int (if upb V (nI a0) = true then nI 1 else nI 0)]) rfl ?_
    refine mn_top (w := nI 1) (if_pos hu) ?_
    refine lv_if_ne (tgt := 26) x.1 x.2.1 dd_sg_handOver_8 (by decide) (fun c165 => ?_) (fun c165 => absurd c165 (by decide +kernel))
    refine lv_aload_n x.1 x.2.1 dd_sg_handOver_26 rfl (lv_at hl 0 rfl) ?_
    refine lv_aload_n x.1 x.2.1 dd_sg_handOver_27 rfl (lv_at hl 1 rfl) ?_
    refine mp_get x hH (la4 hL (Nat.lt_trans ht (by decide))) fg_sg_231 rfl dd_sg_handOver_28 ?_
    refine mn_top (w := nI a0) (hto) ?_
    refine lv_aload_n x.1 x.2.1 dd_sg_handOver_31 rfl (lv_at hl 1 rfl) ?_
    refine mp_get x hH (la4 hL (Nat.lt_trans ht (by decide))) fg_sg_234 rfl dd_sg_handOver_32 ?_
    refine mn_top (w := nI b0) (hpr) ?_
    refine mp_call x (wt_mv base) hG hB hl.1 (mp_invV (av := [.int (nI a0), .int (nI b0)]) x hH (la0 hL) rfl rfl mn_sg_deskOf mc_sg_deskOf (Or.inl ww_517) ww_519 ww_19 rfl dd_sg_handOver_35) (kk_G_deskOf (a0 := a0) (b0 := b0) hL (by omega) (by omega) hdx) (Nat.le_trans (Nat.le_of_ble_eq_true rfl) hfr) (Nat.le_trans (Nat.le_of_ble_eq_true rfl) hlo) (Nat.le_trans (Nat.le_of_ble_eq_true rfl) hce) (Nat.le_trans (Nat.le_of_ble_eq_true rfl) hsl) hH hS (fun v σa t0 H locs hp166 ht0 hvm hzz hH hS => ?_) (fun _ _ _ _ _ hz _ _ _ _ _ => by cases hz.1)
    obtain ⟨ho, hσ⟩ := hp166
    cases ho
    rw [hσ] at hH
    refine W.eq (g2 := F0 m 38 ls [.ref (ad 9 d)]) rfl ?_
    refine lv_astore_n (lv' := [(2, .ref (ad 9 d)), (0, .ref (ad 0 0)), (1, .ref (ad 4 t))]) x.1 x.2.1 dd_sg_handOver_38 rfl hl (by decide) rfl (fun ls hl => ?_)
    refine lv_aload_n x.1 x.2.1 dd_sg_handOver_39 rfl (lv_at hl 0 rfl) ?_
    refine lv_aload_n x.1 x.2.1 dd_sg_handOver_40 rfl (lv_at hl 2 rfl) ?_
    refine mp_get x hH (la4 hL (Nat.lt_trans ht (by decide))) fg_sg_235 rfl dd_sg_handOver_41 ?_
    refine mp_call x (wt_mv base) hG hB hl.1 (mp_invV (av := [.ref (ad 5 t)]) x hH (la9 hL hd) rfl rfl mn_dk_learnAll mc_dk_learnAll (Or.inr ⟨_, ww_550⟩) ww_552 ww_25 rfl dd_sg_handOver_44) (kk_D_learnAll (nc := nc) (n2 := n2) hL hd (Nat.lt_trans ht (by decide)) (hc) (hc3) (by omega) (by omega)) (Nat.le_trans (Nat.le_of_ble_eq_true rfl) hfr) (Nat.le_trans (Nat.le_of_ble_eq_true rfl) hlo) (Nat.le_trans (Nat.le_of_ble_eq_true rfl) hce) (Nat.le_trans (Nat.le_of_ble_eq_true rfl) hsl) hH hS (fun v σa t0 H locs hp167 ht0 hvm hzz hH hS => ?_) (fun _ _ _ _ _ hz _ _ _ _ _ => by cases hz.1)
    obtain ⟨ho, hL⟩ := hp167
    cases ho
    refine W.eq (g2 := F0 m 47 ls []) rfl ?_
    have hmx : mx nc n2 < 13 := mx_lt (by omega) (by omega)
    refine lv_aload_n x.1 x.2.1 dd_sg_handOver_47 rfl (lv_at hl 2 rfl) ?_
    refine mp_get x hH (la4 hL (Nat.lt_trans ht (by decide))) fg_sg_114 rfl dd_sg_handOver_48 ?_
    refine mn_top (w := nI kd) ((sla_o (by omega) (by omega)).trans (hkd)) ?_
    have hsw : kd = 0 ∨ kd = 1 ∨ kd = 2 ∨ kd = 3 ∨ kd = 4 ∨ kd = 5 ∨ kd = 6 := by omega
    rcases hsw with rfl | rfl | rfl | rfl | rfl | rfl | rfl
    · refine lv_tableOut (tgt := 115) x.1 x.2.1 dd_sg_handOver_51 (by decide +kernel) (by decide) ?_
      refine lv_iconst (v := nI 0) x.1 x.2.1 dd_sg_handOver_115 (by decide +kernel) ?_
      exact mp_ri x hr hlk (by decide) (by decide) hH hS (fun _ => ⟨(congrArg (fun z => Outcome.returned (some (.int z))) (by unfold shoR; rw [if_pos hu]; rfl)), by unfold shoV; rw [if_pos hu]; exact hL⟩) dd_sg_handOver_116
    · refine lv_tableIn (tgt := 84) x.1 x.2.1 dd_sg_handOver_51 (by decide +kernel) (by decide +kernel) rfl (by decide) ?_
      refine lv_aload_n x.1 x.2.1 dd_sg_handOver_84 rfl (lv_at hl 1 rfl) ?_
      refine lv_aload_n x.1 x.2.1 dd_sg_handOver_85 rfl (lv_at hl 0 rfl) ?_
      refine lv_aload_n x.1 x.2.1 dd_sg_handOver_86 rfl (lv_at hl 2 rfl) ?_
      refine mp_call x (wt_mv base) hG hB hl.1 (mp_invV (av := [.ref (ad 9 d), .ref (ad 4 t)]) x hH (la0 hL) rfl rfl mn_sg_answerAsker mc_sg_answerAsker (Or.inl ww_567) ww_569 ww_29 rfl dd_sg_handOver_87) (kk_G_answerAsker (nc := mx nc n2) hL ⟨(sla_o (by omega) (by omega)).trans (hf), by omega, (sla_o (by omega) (by omega)).trans (hn), by omega, hpl⟩ hd ht (sla_34 hc) (by omega)) (Nat.le_trans (Nat.le_of_ble_eq_true rfl) hfr) (Nat.le_trans (Nat.le_of_ble_eq_true rfl) hlo) (Nat.le_trans (Nat.le_of_ble_eq_true rfl) hce) (Nat.le_trans (Nat.le_of_ble_eq_true rfl) hsl) hH hS (fun v σa t0 H locs hp168 ht0 hvm hzz hH hS => ?_) (fun _ _ _ _ _ hz _ _ _ _ _ => by cases hz.1)
      obtain ⟨ho, hL⟩ := hp168
      cases ho
      refine W.eq (g2 := F0 m 90 ls [.int (nI 1)]) rfl ?_
      exact mp_ri x hr hlk (by decide) (by decide) hH hS (fun _ => ⟨(congrArg (fun z => Outcome.returned (some (.int z))) (by unfold shoR; rw [if_pos hu]; rfl)), by unfold shoV; rw [if_pos hu]; exact hL⟩) dd_sg_handOver_90
    · refine lv_tableIn (tgt := 91) x.1 x.2.1 dd_sg_handOver_51 (by decide +kernel) (by decide +kernel) rfl (by decide) ?_
      refine lv_aload_n x.1 x.2.1 dd_sg_handOver_91 rfl (lv_at hl 1 rfl) ?_
      refine lv_aload_n x.1 x.2.1 dd_sg_handOver_92 rfl (lv_at hl 0 rfl) ?_
      refine lv_aload_n x.1 x.2.1 dd_sg_handOver_93 rfl (lv_at hl 2 rfl) ?_
      refine mp_call x (wt_mv base) hG hB hl.1 (mp_invV (av := [.ref (ad 9 d), .ref (ad 4 t)]) x hH (la0 hL) rfl rfl mn_sg_countPromise mc_sg_countPromise (Or.inl ww_575) ww_577 ww_31 rfl dd_sg_handOver_94) (kk_G_countPromise (nc := mx nc n2) hL ⟨(sla_o (by omega) (by omega)).trans (hf), by omega, (sla_o (by omega) (by omega)).trans (hn), by omega, hpl⟩ hd ht (sla_34 hc) (by omega)) (Nat.le_trans (Nat.le_of_ble_eq_true rfl) hfr) (Nat.le_trans (Nat.le_of_ble_eq_true rfl) hlo) (Nat.le_trans (Nat.le_of_ble_eq_true rfl) hce) (Nat.le_trans (Nat.le_of_ble_eq_true rfl) hsl) hH hS (fun v σa t0 H locs hp169 ht0 hvm hzz hH hS => ?_) (fun _ _ _ _ _ hz _ _ _ _ _ => by cases hz.1)
      obtain ⟨ho, hL⟩ := hp169
      cases ho
      refine W.eq (g2 := F0 m 97 ls [.int (scr (sla V d t nc n2) d t)]) rfl ?_
      exact mp_ri x hr hlk (by decide) (by decide) hH hS (fun _ => ⟨(congrArg (fun z => Outcome.returned (some (.int z))) (by unfold shoR; rw [if_pos hu]; rfl)), by unfold shoV; rw [if_pos hu]; exact hL⟩) dd_sg_handOver_97
    · refine lv_tableIn (tgt := 84) x.1 x.2.1 dd_sg_handOver_51 (by decide +kernel) (by decide +kernel) rfl (by decide) ?_
      refine lv_aload_n x.1 x.2.1 dd_sg_handOver_84 rfl (lv_at hl 1 rfl) ?_
      refine lv_aload_n x.1 x.2.1 dd_sg_handOver_85 rfl (lv_at hl 0 rfl) ?_
      refine lv_aload_n x.1 x.2.1 dd_sg_handOver_86 rfl (lv_at hl 2 rfl) ?_
      refine mp_call x (wt_mv base) hG hB hl.1 (mp_invV (av := [.ref (ad 9 d), .ref (ad 4 t)]) x hH (la0 hL) rfl rfl mn_sg_answerAsker mc_sg_answerAsker (Or.inl ww_567) ww_569 ww_29 rfl dd_sg_handOver_87) (kk_G_answerAsker (nc := mx nc n2) hL ⟨(sla_o (by omega) (by omega)).trans (hf), by omega, (sla_o (by omega) (by omega)).trans (hn), by omega, hpl⟩ hd ht (sla_34 hc) (by omega)) (Nat.le_trans (Nat.le_of_ble_eq_true rfl) hfr) (Nat.le_trans (Nat.le_of_ble_eq_true rfl) hlo) (Nat.le_trans (Nat.le_of_ble_eq_true rfl) hce) (Nat.le_trans (Nat.le_of_ble_eq_true rfl) hsl) hH hS (fun v σa t0 H locs hp170 ht0 hvm hzz hH hS => ?_) (fun _ _ _ _ _ hz _ _ _ _ _ => by cases hz.1)
      obtain ⟨ho, hL⟩ := hp170
      cases ho
      refine W.eq (g2 := F0 m 90 ls [.int (nI 1)]) rfl ?_
      exact mp_ri x hr hlk (by decide) (by decide) hH hS (fun _ => ⟨(congrArg (fun z => Outcome.returned (some (.int z))) (by unfold shoR; rw [if_pos hu]; rfl)), by unfold shoV; rw [if_pos hu]; exact hL⟩) dd_sg_handOver_90
    · refine lv_tableIn (tgt := 98) x.1 x.2.1 dd_sg_handOver_51 (by decide +kernel) (by decide +kernel) rfl (by decide) ?_
      refine lv_aload_n x.1 x.2.1 dd_sg_handOver_98 rfl (lv_at hl 0 rfl) ?_
      refine lv_aload_n x.1 x.2.1 dd_sg_handOver_99 rfl (lv_at hl 2 rfl) ?_
      refine mp_call x (wt_mv base) hG hB hl.1 (mp_invS (av := [.ref (ad 9 d), .ref (ad 4 t)]) x mn_sg_countAcceptance mc_sg_countAcceptance (Or.inl ww_591) ww_592 ww_54 rfl dd_sg_handOver_100) (kk_G_countAcceptance (nc := mx nc n2) hL hd ht (sla_34 hc) (sla_12 h12)) (Nat.le_trans (Nat.le_of_ble_eq_true rfl) hfr) (Nat.le_trans (Nat.le_of_ble_eq_true rfl) hlo) (Nat.le_trans (Nat.le_of_ble_eq_true rfl) hce) (Nat.le_trans (Nat.le_of_ble_eq_true rfl) hsl) hH hS (fun v σa t0 H locs hp171 ht0 hvm hzz hH hS => ?_) (fun _ _ _ _ _ hz _ _ _ _ _ => by cases hz.1)
      obtain ⟨ho, hL⟩ := hp171
      cases ho
      refine W.eq (g2 := F0 m 103 ls []) rfl ?_
      refine lv_iconst (v := nI 0) x.1 x.2.1 dd_sg_handOver_103 (by decide +kernel) ?_
      exact mp_ri x hr hlk (by decide) (by decide) hH hS (fun _ => ⟨(congrArg (fun z => Outcome.returned (some (.int z))) (by unfold shoR; rw [if_pos hu]; rfl)), by unfold shoV; rw [if_pos hu]; exact hL⟩) dd_sg_handOver_104
    · refine lv_tableIn (tgt := 105) x.1 x.2.1 dd_sg_handOver_51 (by decide +kernel) (by decide +kernel) rfl (by decide) ?_
      refine lv_aload_n x.1 x.2.1 dd_sg_handOver_105 rfl (lv_at hl 0 rfl) ?_
      refine mp_get x hH (la9 hL hd) fg_sg_72 rfl dd_sg_handOver_106 ?_
      refine lv_aload_n x.1 x.2.1 dd_sg_handOver_109 rfl (lv_at hl 2 rfl) ?_
      refine mp_call x (wt_mv base) hG hB hl.1 (mp_invV (av := [.ref (ad 4 t)]) x hH (la12 hL hd) rfl rfl mn_ak_hearRefusal mc_ak_hearRefusal (Or.inr ⟨_, ww_599⟩) ww_601 ww_36 rfl dd_sg_handOver_110) (kk_A_hearRefusal hL hd (Nat.lt_trans ht (by decide))) (Nat.le_trans (Nat.le_of_ble_eq_true rfl) hfr) (Nat.le_trans (Nat.le_of_ble_eq_true rfl) hlo) (Nat.le_trans (Nat.le_of_ble_eq_true rfl) hce) (Nat.le_trans (Nat.le_of_ble_eq_true rfl) hsl) hH hS (fun v σa t0 H locs hp172 ht0 hvm hzz hH hS => ?_) (fun _ _ _ _ _ hz _ _ _ _ _ => by cases hz.1)
      obtain ⟨ho, hL⟩ := hp172
      cases ho
      refine W.eq (g2 := F0 m 113 ls []) rfl ?_
      refine lv_iconst (v := nI 0) x.1 x.2.1 dd_sg_handOver_113 (by decide +kernel) ?_
      exact mp_ri x hr hlk (by decide) (by decide) hH hS (fun _ => ⟨(congrArg (fun z => Outcome.returned (some (.int z))) (by unfold shoR; rw [if_pos hu]; rfl)), by unfold shoV; rw [if_pos hu]; exact hL⟩) dd_sg_handOver_114
    · refine lv_tableOut (tgt := 115) x.1 x.2.1 dd_sg_handOver_51 (by decide +kernel) (by decide) ?_
      refine lv_iconst (v := nI 0) x.1 x.2.1 dd_sg_handOver_115 (by decide +kernel) ?_
      exact mp_ri x hr hlk (by decide) (by decide) hH hS (fun _ => ⟨(congrArg (fun z => Outcome.returned (some (.int z))) (by unfold shoR; rw [if_pos hu]; rfl)), by unfold shoV; rw [if_pos hu]; exact hL⟩) dd_sg_handOver_116
set_option maxRecDepth 100000 in
set_option maxHeartbeats 4000000 in
theorem kk_X_ask_1 {l : Launch} {D : va_G} {ar : Nat → ClassId} {base : Nat} {σ : mp_M} {ad : Nat → Nat → Nat} {rg : Nat → Bool} {pl : Nat → Nat} {V M : fV} {k0 k1 k2 : Int32} (hL : Lay ar ad rg pl V M σ) (hfl : l.flags = flags0) (hQ : (k0 < 0 ∨ nI 25 ≤ k0) ∨ (k1 < 0 ∨ nI 20 ≤ k1) ∨ (k2 < nI 0 ∨ nI 100000 < k2)) : CN l D ar base yy_sg_ask prog_1_method_3_code 6 (Option.some Jvm.ClassFile.FieldType.int) [] 7 96 6 36 [.ref (ad 0 0), .int k0, .int k1, .int k2] σ (fun o σ' t => ∃ a, o = .threw a ∧ mp_T mp_iae a t ∧ σ' = σ) := by
  refine mp_in (Nat.le_of_ble_eq_true rfl) ?_
  intro p e R s m below meth c x hfr hlo hce hsl hr hlk hin hex hG hB ls H hH0 hH hS hl
  have hl : lv_has ls 6 [(0, .ref (ad 0 0)), (1, .int k0), (2, .int k1), (3, .int k2)] := hl
  refine lv_iload_n x.1 x.2.1 dd_sg_ask_0 rfl (lv_at hl 1 rfl) ?_
  by_cases hq0 : k0 < 0 ∨ nI 25 ≤ k0
  · skip
    refine mp_call x (wt_mv base) hG hB hl.1 (mp_invS (av := [.int k0]) x mn_sg_needShop mc_sg_needShop (Or.inl ww_425) ww_426 ww_54 rfl dd_sg_ask_1) (kk_G_shop_no hfl hq0) (Nat.le_trans (Nat.le_of_ble_eq_true rfl) hfr) (Nat.le_trans (Nat.le_of_ble_eq_true rfl) hlo) (Nat.le_trans (Nat.le_of_ble_eq_true rfl) hce) (Nat.le_trans (Nat.le_of_ble_eq_true rfl) hsl) hH hS (fun v σa t0 H locs hp173 ht0 hvm hzz hH hS => by obtain ⟨a, ho, -⟩ := hp173; cases ho) (fun a σa t0 H locs hp173 ht0 hvm hzz hH hS => ?_)
    obtain ⟨a, ho, hT, hσ⟩ := hp173
    cases ho
    rw [hσ] at hH
    exact mp_ro hlk hex (by decide) (by decide) hH hS hT ht0 hvm (fun t hT => ⟨a, rfl, hT, rfl⟩)
  · skip
    refine mp_call x (wt_mv base) hG hB hl.1 (mp_invS (av := [.int k0]) x mn_sg_needShop mc_sg_needShop (Or.inl ww_425) ww_426 ww_54 rfl dd_sg_ask_1) (kk_G_shop_ok hfl hq0) (Nat.le_trans (Nat.le_of_ble_eq_true rfl) hfr) (Nat.le_trans (Nat.le_of_ble_eq_true rfl) hlo) (Nat.le_trans (Nat.le_of_ble_eq_true rfl) hce) (Nat.le_trans (Nat.le_of_ble_eq_true rfl) hsl) hH hS (fun v σa t0 H locs hp174 ht0 hvm hzz hH hS => ?_) (fun _ _ _ _ _ hz _ _ _ _ _ => by cases hz.1)
    obtain ⟨ho, hσ⟩ := hp174
    cases ho
    rw [hσ] at hH
    refine W.eq (g2 := F0 m 4 ls []) rfl ?_
    refine lv_iload_n x.1 x.2.1 dd_sg_ask_4 rfl (lv_at hl 2 rfl) ?_
    by_cases hq1 : k1 < 0 ∨ nI 20 ≤ k1
    · skip
      refine mp_call x (wt_mv base) hG hB hl.1 (mp_invS (av := [.int k1]) x mn_sg_needPrescription mc_sg_needPrescription (Or.inl ww_309) ww_310 ww_54 rfl dd_sg_ask_5) (kk_G_pres_no hfl hq1) (Nat.le_trans (Nat.le_of_ble_eq_true rfl) hfr) (Nat.le_trans (Nat.le_of_ble_eq_true rfl) hlo) (Nat.le_trans (Nat.le_of_ble_eq_true rfl) hce) (Nat.le_trans (Nat.le_of_ble_eq_true rfl) hsl) hH hS (fun v σa t0 H locs hp175 ht0 hvm hzz hH hS => by obtain ⟨a, ho, -⟩ := hp175; cases ho) (fun a σa t0 H locs hp175 ht0 hvm hzz hH hS => ?_)
      obtain ⟨a, ho, hT, hσ⟩ := hp175
      cases ho
      rw [hσ] at hH
      exact mp_ro hlk hex (by decide) (by decide) hH hS hT ht0 hvm (fun t hT => ⟨a, rfl, hT, rfl⟩)
    · skip
      refine mp_call x (wt_mv base) hG hB hl.1 (mp_invS (av := [.int k1]) x mn_sg_needPrescription mc_sg_needPrescription (Or.inl ww_309) ww_310 ww_54 rfl dd_sg_ask_5) (kk_G_pres_ok hfl hq1) (Nat.le_trans (Nat.le_of_ble_eq_true rfl) hfr) (Nat.le_trans (Nat.le_of_ble_eq_true rfl) hlo) (Nat.le_trans (Nat.le_of_ble_eq_true rfl) hce) (Nat.le_trans (Nat.le_of_ble_eq_true rfl) hsl) hH hS (fun v σa t0 H locs hp176 ht0 hvm hzz hH hS => ?_) (fun _ _ _ _ _ hz _ _ _ _ _ => by cases hz.1)
      obtain ⟨ho, hσ⟩ := hp176
      cases ho
      rw [hσ] at hH
      refine W.eq (g2 := F0 m 8 ls []) rfl ?_
      refine lv_iload_n x.1 x.2.1 dd_sg_ask_8 rfl (lv_at hl 3 rfl) ?_
      refine lv_iconst (v := nI 0) x.1 x.2.1 dd_sg_ask_9 (by decide +kernel) ?_
      refine lv_ldc (v := 100000) x.1 x.2.1 x.2.2.2.1 (x.2.2.2.2.1 _ ww_429) dd_sg_ask_10 ?_
      refine mn_top (w := nI 100000) (by decide +kernel) ?_
      by_cases hq2 : k2 < nI 0 ∨ nI 100000 < k2
      · skip
        refine mp_call x (wt_mv base) hG hB hl.1 (mp_invS (av := [.int k2, .int (nI 0), .int (nI 100000)]) x mn_sg_needWithin mc_sg_needWithin (Or.inl ww_379) ww_380 ww_54 rfl dd_sg_ask_12) (kk_G_within_no hfl hq2) (Nat.le_trans (Nat.le_of_ble_eq_true rfl) hfr) (Nat.le_trans (Nat.le_of_ble_eq_true rfl) hlo) (Nat.le_trans (Nat.le_of_ble_eq_true rfl) hce) (Nat.le_trans (Nat.le_of_ble_eq_true rfl) hsl) hH hS (fun v σa t0 H locs hp177 ht0 hvm hzz hH hS => by obtain ⟨a, ho, -⟩ := hp177; cases ho) (fun a σa t0 H locs hp177 ht0 hvm hzz hH hS => ?_)
        obtain ⟨a, ho, hT, hσ⟩ := hp177
        cases ho
        rw [hσ] at hH
        exact mp_ro hlk hex (by decide) (by decide) hH hS hT ht0 hvm (fun t hT => ⟨a, rfl, hT, rfl⟩)
      · skip
        exact (hQ.elim hq0 (fun z => z.elim hq1 hq2)).elim
set_option maxRecDepth 100000 in
set_option maxHeartbeats 4000000 in
theorem kk_X_retry_1 {l : Launch} {D : va_G} {ar : Nat → ClassId} {base : Nat} {σ : mp_M} {ad : Nat → Nat → Nat} {rg : Nat → Bool} {pl : Nat → Nat} {V M : fV} {k0 k1 : Int32} (hL : Lay ar ad rg pl V M σ) (hfl : l.flags = flags0) (hQ : (k0 < 0 ∨ nI 25 ≤ k0) ∨ (k1 < 0 ∨ nI 20 ≤ k1)) : CN l D ar base yy_sg_retry prog_1_method_4_code 4 (Option.some Jvm.ClassFile.FieldType.int) [] 7 94 6 36 [.ref (ad 0 0), .int k0, .int k1] σ (fun o σ' t => ∃ a, o = .threw a ∧ mp_T mp_iae a t ∧ σ' = σ) := by
  refine mp_in (Nat.le_of_ble_eq_true rfl) ?_
  intro p e R s m below meth c x hfr hlo hce hsl hr hlk hin hex hG hB ls H hH0 hH hS hl
  have hl : lv_has ls 4 [(0, .ref (ad 0 0)), (1, .int k0), (2, .int k1)] := hl
  refine lv_iload_n x.1 x.2.1 dd_sg_retry_0 rfl (lv_at hl 1 rfl) ?_
  by_cases hq0 : k0 < 0 ∨ nI 25 ≤ k0
  · skip
    refine mp_call x (wt_mv base) hG hB hl.1 (mp_invS (av := [.int k0]) x mn_sg_needShop mc_sg_needShop (Or.inl ww_425) ww_426 ww_54 rfl dd_sg_retry_1) (kk_G_shop_no hfl hq0) (Nat.le_trans (Nat.le_of_ble_eq_true rfl) hfr) (Nat.le_trans (Nat.le_of_ble_eq_true rfl) hlo) (Nat.le_trans (Nat.le_of_ble_eq_true rfl) hce) (Nat.le_trans (Nat.le_of_ble_eq_true rfl) hsl) hH hS (fun v σa t0 H locs hp178 ht0 hvm hzz hH hS => by obtain ⟨a, ho, -⟩ := hp178; cases ho) (fun a σa t0 H locs hp178 ht0 hvm hzz hH hS => ?_)
    obtain ⟨a, ho, hT, hσ⟩ := hp178
    cases ho
    rw [hσ] at hH
    exact mp_ro hlk hex (by decide) (by decide) hH hS hT ht0 hvm (fun t hT => ⟨a, rfl, hT, rfl⟩)
  · skip
    refine mp_call x (wt_mv base) hG hB hl.1 (mp_invS (av := [.int k0]) x mn_sg_needShop mc_sg_needShop (Or.inl ww_425) ww_426 ww_54 rfl dd_sg_retry_1) (kk_G_shop_ok hfl hq0) (Nat.le_trans (Nat.le_of_ble_eq_true rfl) hfr) (Nat.le_trans (Nat.le_of_ble_eq_true rfl) hlo) (Nat.le_trans (Nat.le_of_ble_eq_true rfl) hce) (Nat.le_trans (Nat.le_of_ble_eq_true rfl) hsl) hH hS (fun v σa t0 H locs hp179 ht0 hvm hzz hH hS => ?_) (fun _ _ _ _ _ hz _ _ _ _ _ => by cases hz.1)
    obtain ⟨ho, hσ⟩ := hp179
    cases ho
    rw [hσ] at hH
    refine W.eq (g2 := F0 m 4 ls []) rfl ?_
    refine lv_iload_n x.1 x.2.1 dd_sg_retry_4 rfl (lv_at hl 2 rfl) ?_
    by_cases hq1 : k1 < 0 ∨ nI 20 ≤ k1
    · skip
      refine mp_call x (wt_mv base) hG hB hl.1 (mp_invS (av := [.int k1]) x mn_sg_needPrescription mc_sg_needPrescription (Or.inl ww_309) ww_310 ww_54 rfl dd_sg_retry_5) (kk_G_pres_no hfl hq1) (Nat.le_trans (Nat.le_of_ble_eq_true rfl) hfr) (Nat.le_trans (Nat.le_of_ble_eq_true rfl) hlo) (Nat.le_trans (Nat.le_of_ble_eq_true rfl) hce) (Nat.le_trans (Nat.le_of_ble_eq_true rfl) hsl) hH hS (fun v σa t0 H locs hp180 ht0 hvm hzz hH hS => by obtain ⟨a, ho, -⟩ := hp180; cases ho) (fun a σa t0 H locs hp180 ht0 hvm hzz hH hS => ?_)
      obtain ⟨a, ho, hT, hσ⟩ := hp180
      cases ho
      rw [hσ] at hH
      exact mp_ro hlk hex (by decide) (by decide) hH hS hT ht0 hvm (fun t hT => ⟨a, rfl, hT, rfl⟩)
    · skip
      exact (hQ.elim hq0 hq1).elim
set_option maxRecDepth 100000 in
set_option maxHeartbeats 4000000 in
theorem kk_X_deliver_1 {l : Launch} {D : va_G} {ar : Nat → ClassId} {base : Nat} {σ : mp_M} {ad : Nat → Nat → Nat} {rg : Nat → Bool} {pl : Nat → Nat} {V M : fV} {k0 : Int32} {n : Nat} (hL : Lay ar ad rg pl V M σ) (hn : V 55 0 = nI n) (hfl : l.flags = flags0) (hQ : (k0 < 0 ∨ nI n ≤ k0)) : CN l D ar base yy_sg_deliver prog_1_method_5_code 2 (Option.some Jvm.ClassFile.FieldType.int) [] 7 95 6 36 [.ref (ad 0 0), .int k0] σ (fun o σ' t => ∃ a, o = .threw a ∧ mp_T mp_iae a t ∧ σ' = σ) := by
  refine mp_in (Nat.le_of_ble_eq_true rfl) ?_
  intro p e R s m below meth c x hfr hlo hce hsl hr hlk hin hex hG hB ls H hH0 hH hS hl
  have hl : lv_has ls 2 [(0, .ref (ad 0 0)), (1, .int k0)] := hl
  refine lv_aload_n x.1 x.2.1 dd_sg_deliver_0 rfl (lv_at hl 0 rfl) ?_
  refine lv_iload_n x.1 x.2.1 dd_sg_deliver_1 rfl (lv_at hl 1 rfl) ?_
  by_cases hq0 : k0 < 0 ∨ nI n ≤ k0
  · skip
    refine mp_call x (wt_mv base) hG hB hl.1 (mp_invV (av := [.int k0]) x hH (la0 hL) rfl rfl mn_sg_needLetter mc_sg_needLetter (Or.inl ww_533) ww_535 ww_21 rfl dd_sg_deliver_2) (kk_G_letter_no hL (hn) hfl hq0) (Nat.le_trans (Nat.le_of_ble_eq_true rfl) hfr) (Nat.le_trans (Nat.le_of_ble_eq_true rfl) hlo) (Nat.le_trans (Nat.le_of_ble_eq_true rfl) hce) (Nat.le_trans (Nat.le_of_ble_eq_true rfl) hsl) hH hS (fun v σa t0 H locs hp181 ht0 hvm hzz hH hS => by obtain ⟨a, ho, -⟩ := hp181; cases ho) (fun a σa t0 H locs hp181 ht0 hvm hzz hH hS => ?_)
    obtain ⟨a, ho, hT, hσ⟩ := hp181
    cases ho
    rw [hσ] at hH
    exact mp_ro hlk hex (by decide) (by decide) hH hS hT ht0 hvm (fun t hT => ⟨a, rfl, hT, rfl⟩)
  · skip
    exact absurd hQ hq0
set_option maxRecDepth 100000 in
set_option maxHeartbeats 4000000 in
theorem kk_X_drop_1 {l : Launch} {D : va_G} {ar : Nat → ClassId} {base : Nat} {σ : mp_M} {ad : Nat → Nat → Nat} {rg : Nat → Bool} {pl : Nat → Nat} {V M : fV} {k0 : Int32} {n : Nat} (hL : Lay ar ad rg pl V M σ) (hn : V 55 0 = nI n) (hfl : l.flags = flags0) (hQ : (k0 < 0 ∨ nI n ≤ k0)) : CN l D ar base yy_sg_drop prog_1_method_6_code 2 (Option.some Jvm.ClassFile.FieldType.int) [] 7 95 6 36 [.ref (ad 0 0), .int k0] σ (fun o σ' t => ∃ a, o = .threw a ∧ mp_T mp_iae a t ∧ σ' = σ) := by
  refine mp_in (Nat.le_of_ble_eq_true rfl) ?_
  intro p e R s m below meth c x hfr hlo hce hsl hr hlk hin hex hG hB ls H hH0 hH hS hl
  have hl : lv_has ls 2 [(0, .ref (ad 0 0)), (1, .int k0)] := hl
  refine lv_aload_n x.1 x.2.1 dd_sg_drop_0 rfl (lv_at hl 0 rfl) ?_
  refine lv_iload_n x.1 x.2.1 dd_sg_drop_1 rfl (lv_at hl 1 rfl) ?_
  by_cases hq0 : k0 < 0 ∨ nI n ≤ k0
  · skip
    refine mp_call x (wt_mv base) hG hB hl.1 (mp_invV (av := [.int k0]) x hH (la0 hL) rfl rfl mn_sg_needLetter mc_sg_needLetter (Or.inl ww_533) ww_535 ww_21 rfl dd_sg_drop_2) (kk_G_letter_no hL (hn) hfl hq0) (Nat.le_trans (Nat.le_of_ble_eq_true rfl) hfr) (Nat.le_trans (Nat.le_of_ble_eq_true rfl) hlo) (Nat.le_trans (Nat.le_of_ble_eq_true rfl) hce) (Nat.le_trans (Nat.le_of_ble_eq_true rfl) hsl) hH hS (fun v σa t0 H locs hp182 ht0 hvm hzz hH hS => by obtain ⟨a, ho, -⟩ := hp182; cases ho) (fun a σa t0 H locs hp182 ht0 hvm hzz hH hS => ?_)
    obtain ⟨a, ho, hT, hσ⟩ := hp182
    cases ho
    rw [hσ] at hH
    exact mp_ro hlk hex (by decide) (by decide) hH hS hT ht0 hvm (fun t hT => ⟨a, rfl, hT, rfl⟩)
  · skip
    exact absurd hQ hq0
set_option maxRecDepth 100000 in
set_option maxHeartbeats 4000000 in
theorem kk_X_copy_1 {l : Launch} {D : va_G} {ar : Nat → ClassId} {base : Nat} {σ : mp_M} {ad : Nat → Nat → Nat} {rg : Nat → Bool} {pl : Nat → Nat} {V M : fV} {k0 : Int32} {n : Nat} (hL : Lay ar ad rg pl V M σ) (hn : V 55 0 = nI n) (hfl : l.flags = flags0) (hQ : (k0 < 0 ∨ nI n ≤ k0)) : CN l D ar base yy_sg_copy prog_1_method_7_code 2 (Option.some Jvm.ClassFile.FieldType.boolean) [] 7 95 6 36 [.ref (ad 0 0), .int k0] σ (fun o σ' t => ∃ a, o = .threw a ∧ mp_T mp_iae a t ∧ σ' = σ) := by
  refine mp_in (Nat.le_of_ble_eq_true rfl) ?_
  intro p e R s m below meth c x hfr hlo hce hsl hr hlk hin hex hG hB ls H hH0 hH hS hl
  have hl : lv_has ls 2 [(0, .ref (ad 0 0)), (1, .int k0)] := hl
  refine lv_aload_n x.1 x.2.1 dd_sg_copy_0 rfl (lv_at hl 0 rfl) ?_
  refine lv_iload_n x.1 x.2.1 dd_sg_copy_1 rfl (lv_at hl 1 rfl) ?_
  by_cases hq0 : k0 < 0 ∨ nI n ≤ k0
  · skip
    refine mp_call x (wt_mv base) hG hB hl.1 (mp_invV (av := [.int k0]) x hH (la0 hL) rfl rfl mn_sg_needLetter mc_sg_needLetter (Or.inl ww_533) ww_535 ww_21 rfl dd_sg_copy_2) (kk_G_letter_no hL (hn) hfl hq0) (Nat.le_trans (Nat.le_of_ble_eq_true rfl) hfr) (Nat.le_trans (Nat.le_of_ble_eq_true rfl) hlo) (Nat.le_trans (Nat.le_of_ble_eq_true rfl) hce) (Nat.le_trans (Nat.le_of_ble_eq_true rfl) hsl) hH hS (fun v σa t0 H locs hp183 ht0 hvm hzz hH hS => by obtain ⟨a, ho, -⟩ := hp183; cases ho) (fun a σa t0 H locs hp183 ht0 hvm hzz hH hS => ?_)
    obtain ⟨a, ho, hT, hσ⟩ := hp183
    cases ho
    rw [hσ] at hH
    exact mp_ro hlk hex (by decide) (by decide) hH hS hT ht0 hvm (fun t hT => ⟨a, rfl, hT, rfl⟩)
  · skip
    exact absurd hQ hq0
set_option maxRecDepth 100000 in
set_option maxHeartbeats 4000000 in
theorem kk_X_deliverAll_1 {l : Launch} {D : va_G} {ar : Nat → ClassId} {base : Nat} {σ : mp_M} {ad : Nat → Nat → Nat} {rg : Nat → Bool} {pl : Nat → Nat} {V M : fV} {k0 : Int32} (hL : Lay ar ad rg pl V M σ) (hfl : l.flags = flags0) (hQ : (k0 < nI 0 ∨ nI 2000 < k0)) : CN l D ar base yy_sg_deliverAll prog_1_method_8_code 3 (Option.some Jvm.ClassFile.FieldType.int) [] 7 96 6 36 [.ref (ad 0 0), .int k0] σ (fun o σ' t => ∃ a, o = .threw a ∧ mp_T mp_iae a t ∧ σ' = σ) := by
  refine mp_in (Nat.le_of_ble_eq_true rfl) ?_
  intro p e R s m below meth c x hfr hlo hce hsl hr hlk hin hex hG hB ls H hH0 hH hS hl
  have hl : lv_has ls 3 [(0, .ref (ad 0 0)), (1, .int k0)] := hl
  refine lv_iload_n x.1 x.2.1 dd_sg_deliverAll_0 rfl (lv_at hl 1 rfl) ?_
  refine lv_iconst (v := nI 0) x.1 x.2.1 dd_sg_deliverAll_1 (by decide +kernel) ?_
  refine lv_sipush (v := nI 2000) x.1 x.2.1 dd_sg_deliverAll_2 (by decide +kernel) ?_
  by_cases hq0 : k0 < nI 0 ∨ nI 2000 < k0
  · skip
    refine mp_call x (wt_mv base) hG hB hl.1 (mp_invS (av := [.int k0, .int (nI 0), .int (nI 2000)]) x mn_sg_needWithin mc_sg_needWithin (Or.inl ww_379) ww_380 ww_54 rfl dd_sg_deliverAll_5) (kk_G_within_no hfl hq0) (Nat.le_trans (Nat.le_of_ble_eq_true rfl) hfr) (Nat.le_trans (Nat.le_of_ble_eq_true rfl) hlo) (Nat.le_trans (Nat.le_of_ble_eq_true rfl) hce) (Nat.le_trans (Nat.le_of_ble_eq_true rfl) hsl) hH hS (fun v σa t0 H locs hp184 ht0 hvm hzz hH hS => by obtain ⟨a, ho, -⟩ := hp184; cases ho) (fun a σa t0 H locs hp184 ht0 hvm hzz hH hS => ?_)
    obtain ⟨a, ho, hT, hσ⟩ := hp184
    cases ho
    rw [hσ] at hH
    exact mp_ro hlk hex (by decide) (by decide) hH hS hT ht0 hvm (fun t hT => ⟨a, rfl, hT, rfl⟩)
  · skip
    exact absurd hQ hq0
set_option maxRecDepth 100000 in
set_option maxHeartbeats 4000000 in
theorem kk_X_up_1 {l : Launch} {D : va_G} {ar : Nat → ClassId} {base : Nat} {σ : mp_M} {ad : Nat → Nat → Nat} {rg : Nat → Bool} {pl : Nat → Nat} {V M : fV} {k0 k1 : Int32} (hL : Lay ar ad rg pl V M σ) (hfl : l.flags = flags0) (hQ : (k0 < 0 ∨ nI 25 ≤ k0)) : CN l D ar base yy_sg_up prog_1_method_9_code 3 (Option.some Jvm.ClassFile.FieldType.boolean) [] 7 94 6 36 [.ref (ad 0 0), .int k0, .int k1] σ (fun o σ' t => ∃ a, o = .threw a ∧ mp_T mp_iae a t ∧ σ' = σ) := by
  refine mp_in (Nat.le_of_ble_eq_true rfl) ?_
  intro p e R s m below meth c x hfr hlo hce hsl hr hlk hin hex hG hB ls H hH0 hH hS hl
  have hl : lv_has ls 3 [(0, .ref (ad 0 0)), (1, .int k0), (2, .int k1)] := hl
  refine lv_iload_n x.1 x.2.1 dd_sg_up_0 rfl (lv_at hl 1 rfl) ?_
  by_cases hq0 : k0 < 0 ∨ nI 25 ≤ k0
  · skip
    refine mp_call x (wt_mv base) hG hB hl.1 (mp_invS (av := [.int k0]) x mn_sg_needShop mc_sg_needShop (Or.inl ww_425) ww_426 ww_54 rfl dd_sg_up_1) (kk_G_shop_no hfl hq0) (Nat.le_trans (Nat.le_of_ble_eq_true rfl) hfr) (Nat.le_trans (Nat.le_of_ble_eq_true rfl) hlo) (Nat.le_trans (Nat.le_of_ble_eq_true rfl) hce) (Nat.le_trans (Nat.le_of_ble_eq_true rfl) hsl) hH hS (fun v σa t0 H locs hp185 ht0 hvm hzz hH hS => by obtain ⟨a, ho, -⟩ := hp185; cases ho) (fun a σa t0 H locs hp185 ht0 hvm hzz hH hS => ?_)
    obtain ⟨a, ho, hT, hσ⟩ := hp185
    cases ho
    rw [hσ] at hH
    exact mp_ro hlk hex (by decide) (by decide) hH hS hT ht0 hvm (fun t hT => ⟨a, rfl, hT, rfl⟩)
  · skip
    exact absurd hQ hq0
set_option maxRecDepth 100000 in
set_option maxHeartbeats 4000000 in
theorem kk_X_teach_1 {l : Launch} {D : va_G} {ar : Nat → ClassId} {base : Nat} {σ : mp_M} {ad : Nat → Nat → Nat} {rg : Nat → Bool} {pl : Nat → Nat} {V M : fV} {k0 k1 k2 : Int32} (hL : Lay ar ad rg pl V M σ) (hfl : l.flags = flags0) (hQ : (k0 < 0 ∨ nI 25 ≤ k0) ∨ (k1 < 0 ∨ nI 25 ≤ k1) ∨ (k2 < 0 ∨ nI 20 ≤ k2)) : CN l D ar base yy_sg_teach prog_1_method_10_code 4 (Option.some Jvm.ClassFile.FieldType.boolean) [] 7 94 6 36 [.ref (ad 0 0), .int k0, .int k1, .int k2] σ (fun o σ' t => ∃ a, o = .threw a ∧ mp_T mp_iae a t ∧ σ' = σ) := by
  refine mp_in (Nat.le_of_ble_eq_true rfl) ?_
  intro p e R s m below meth c x hfr hlo hce hsl hr hlk hin hex hG hB ls H hH0 hH hS hl
  have hl : lv_has ls 4 [(0, .ref (ad 0 0)), (1, .int k0), (2, .int k1), (3, .int k2)] := hl
  refine lv_iload_n x.1 x.2.1 dd_sg_teach_0 rfl (lv_at hl 1 rfl) ?_
  by_cases hq0 : k0 < 0 ∨ nI 25 ≤ k0
  · skip
    refine mp_call x (wt_mv base) hG hB hl.1 (mp_invS (av := [.int k0]) x mn_sg_needShop mc_sg_needShop (Or.inl ww_425) ww_426 ww_54 rfl dd_sg_teach_1) (kk_G_shop_no hfl hq0) (Nat.le_trans (Nat.le_of_ble_eq_true rfl) hfr) (Nat.le_trans (Nat.le_of_ble_eq_true rfl) hlo) (Nat.le_trans (Nat.le_of_ble_eq_true rfl) hce) (Nat.le_trans (Nat.le_of_ble_eq_true rfl) hsl) hH hS (fun v σa t0 H locs hp186 ht0 hvm hzz hH hS => by obtain ⟨a, ho, -⟩ := hp186; cases ho) (fun a σa t0 H locs hp186 ht0 hvm hzz hH hS => ?_)
    obtain ⟨a, ho, hT, hσ⟩ := hp186
    cases ho
    rw [hσ] at hH
    exact mp_ro hlk hex (by decide) (by decide) hH hS hT ht0 hvm (fun t hT => ⟨a, rfl, hT, rfl⟩)
  · skip
    refine mp_call x (wt_mv base) hG hB hl.1 (mp_invS (av := [.int k0]) x mn_sg_needShop mc_sg_needShop (Or.inl ww_425) ww_426 ww_54 rfl dd_sg_teach_1) (kk_G_shop_ok hfl hq0) (Nat.le_trans (Nat.le_of_ble_eq_true rfl) hfr) (Nat.le_trans (Nat.le_of_ble_eq_true rfl) hlo) (Nat.le_trans (Nat.le_of_ble_eq_true rfl) hce) (Nat.le_trans (Nat.le_of_ble_eq_true rfl) hsl) hH hS (fun v σa t0 H locs hp187 ht0 hvm hzz hH hS => ?_) (fun _ _ _ _ _ hz _ _ _ _ _ => by cases hz.1)
    obtain ⟨ho, hσ⟩ := hp187
    cases ho
    rw [hσ] at hH
    refine W.eq (g2 := F0 m 4 ls []) rfl ?_
    refine lv_iload_n x.1 x.2.1 dd_sg_teach_4 rfl (lv_at hl 2 rfl) ?_
    by_cases hq1 : k1 < 0 ∨ nI 25 ≤ k1
    · skip
      refine mp_call x (wt_mv base) hG hB hl.1 (mp_invS (av := [.int k1]) x mn_sg_needShop mc_sg_needShop (Or.inl ww_425) ww_426 ww_54 rfl dd_sg_teach_5) (kk_G_shop_no hfl hq1) (Nat.le_trans (Nat.le_of_ble_eq_true rfl) hfr) (Nat.le_trans (Nat.le_of_ble_eq_true rfl) hlo) (Nat.le_trans (Nat.le_of_ble_eq_true rfl) hce) (Nat.le_trans (Nat.le_of_ble_eq_true rfl) hsl) hH hS (fun v σa t0 H locs hp188 ht0 hvm hzz hH hS => by obtain ⟨a, ho, -⟩ := hp188; cases ho) (fun a σa t0 H locs hp188 ht0 hvm hzz hH hS => ?_)
      obtain ⟨a, ho, hT, hσ⟩ := hp188
      cases ho
      rw [hσ] at hH
      exact mp_ro hlk hex (by decide) (by decide) hH hS hT ht0 hvm (fun t hT => ⟨a, rfl, hT, rfl⟩)
    · skip
      refine mp_call x (wt_mv base) hG hB hl.1 (mp_invS (av := [.int k1]) x mn_sg_needShop mc_sg_needShop (Or.inl ww_425) ww_426 ww_54 rfl dd_sg_teach_5) (kk_G_shop_ok hfl hq1) (Nat.le_trans (Nat.le_of_ble_eq_true rfl) hfr) (Nat.le_trans (Nat.le_of_ble_eq_true rfl) hlo) (Nat.le_trans (Nat.le_of_ble_eq_true rfl) hce) (Nat.le_trans (Nat.le_of_ble_eq_true rfl) hsl) hH hS (fun v σa t0 H locs hp189 ht0 hvm hzz hH hS => ?_) (fun _ _ _ _ _ hz _ _ _ _ _ => by cases hz.1)
      obtain ⟨ho, hσ⟩ := hp189
      cases ho
      rw [hσ] at hH
      refine W.eq (g2 := F0 m 8 ls []) rfl ?_
      refine lv_iload_n x.1 x.2.1 dd_sg_teach_8 rfl (lv_at hl 3 rfl) ?_
      by_cases hq2 : k2 < 0 ∨ nI 20 ≤ k2
      · skip
        refine mp_call x (wt_mv base) hG hB hl.1 (mp_invS (av := [.int k2]) x mn_sg_needPrescription mc_sg_needPrescription (Or.inl ww_309) ww_310 ww_54 rfl dd_sg_teach_9) (kk_G_pres_no hfl hq2) (Nat.le_trans (Nat.le_of_ble_eq_true rfl) hfr) (Nat.le_trans (Nat.le_of_ble_eq_true rfl) hlo) (Nat.le_trans (Nat.le_of_ble_eq_true rfl) hce) (Nat.le_trans (Nat.le_of_ble_eq_true rfl) hsl) hH hS (fun v σa t0 H locs hp190 ht0 hvm hzz hH hS => by obtain ⟨a, ho, -⟩ := hp190; cases ho) (fun a σa t0 H locs hp190 ht0 hvm hzz hH hS => ?_)
        obtain ⟨a, ho, hT, hσ⟩ := hp190
        cases ho
        rw [hσ] at hH
        exact mp_ro hlk hex (by decide) (by decide) hH hS hT ht0 hvm (fun t hT => ⟨a, rfl, hT, rfl⟩)
      · skip
        exact (hQ.elim hq0 (fun z => z.elim hq1 hq2)).elim
set_option maxRecDepth 100000 in
set_option maxHeartbeats 4000000 in
theorem kk_X_letter_1 {l : Launch} {D : va_G} {ar : Nat → ClassId} {base : Nat} {σ : mp_M} {ad : Nat → Nat → Nat} {rg : Nat → Bool} {pl : Nat → Nat} {V M : fV} {k0 k1 : Int32} {n : Nat} (hL : Lay ar ad rg pl V M σ) (hn : V 55 0 = nI n) (hfl : l.flags = flags0) (hQ : (k0 < 0 ∨ nI n ≤ k0) ∨ (k1 < nI 0 ∨ nI 9 < k1)) : CN l D ar base yy_sg_letter prog_1_method_12_code 3 (Option.some Jvm.ClassFile.FieldType.int) [] 7 96 6 36 [.ref (ad 0 0), .int k0, .int k1] σ (fun o σ' t => ∃ a, o = .threw a ∧ mp_T mp_iae a t ∧ σ' = σ) := by
  refine mp_in (Nat.le_of_ble_eq_true rfl) ?_
  intro p e R s m below meth c x hfr hlo hce hsl hr hlk hin hex hG hB ls H hH0 hH hS hl
  have hl : lv_has ls 3 [(0, .ref (ad 0 0)), (1, .int k0), (2, .int k1)] := hl
  refine lv_aload_n x.1 x.2.1 dd_sg_letter_0 rfl (lv_at hl 0 rfl) ?_
  refine lv_iload_n x.1 x.2.1 dd_sg_letter_1 rfl (lv_at hl 1 rfl) ?_
  by_cases hq0 : k0 < 0 ∨ nI n ≤ k0
  · skip
    refine mp_call x (wt_mv base) hG hB hl.1 (mp_invV (av := [.int k0]) x hH (la0 hL) rfl rfl mn_sg_needLetter mc_sg_needLetter (Or.inl ww_533) ww_535 ww_21 rfl dd_sg_letter_2) (kk_G_letter_no hL (hn) hfl hq0) (Nat.le_trans (Nat.le_of_ble_eq_true rfl) hfr) (Nat.le_trans (Nat.le_of_ble_eq_true rfl) hlo) (Nat.le_trans (Nat.le_of_ble_eq_true rfl) hce) (Nat.le_trans (Nat.le_of_ble_eq_true rfl) hsl) hH hS (fun v σa t0 H locs hp191 ht0 hvm hzz hH hS => by obtain ⟨a, ho, -⟩ := hp191; cases ho) (fun a σa t0 H locs hp191 ht0 hvm hzz hH hS => ?_)
    obtain ⟨a, ho, hT, hσ⟩ := hp191
    cases ho
    rw [hσ] at hH
    exact mp_ro hlk hex (by decide) (by decide) hH hS hT ht0 hvm (fun t hT => ⟨a, rfl, hT, rfl⟩)
  · skip
    refine mp_call x (wt_mv base) hG hB hl.1 (mp_invV (av := [.int k0]) x hH (la0 hL) rfl rfl mn_sg_needLetter mc_sg_needLetter (Or.inl ww_533) ww_535 ww_21 rfl dd_sg_letter_2) (kk_G_letter_ok hL (hn) hfl hq0) (Nat.le_trans (Nat.le_of_ble_eq_true rfl) hfr) (Nat.le_trans (Nat.le_of_ble_eq_true rfl) hlo) (Nat.le_trans (Nat.le_of_ble_eq_true rfl) hce) (Nat.le_trans (Nat.le_of_ble_eq_true rfl) hsl) hH hS (fun v σa t0 H locs hp192 ht0 hvm hzz hH hS => ?_) (fun _ _ _ _ _ hz _ _ _ _ _ => by cases hz.1)
    obtain ⟨ho, hσ⟩ := hp192
    cases ho
    rw [hσ] at hH
    refine W.eq (g2 := F0 m 5 ls []) rfl ?_
    refine lv_iload_n x.1 x.2.1 dd_sg_letter_5 rfl (lv_at hl 2 rfl) ?_
    refine lv_iconst (v := nI 0) x.1 x.2.1 dd_sg_letter_6 (by decide +kernel) ?_
    refine lv_bipush (v := nI 9) x.1 x.2.1 dd_sg_letter_7 (by decide +kernel) ?_
    by_cases hq1 : k1 < nI 0 ∨ nI 9 < k1
    · skip
      refine mp_call x (wt_mv base) hG hB hl.1 (mp_invS (av := [.int k1, .int (nI 0), .int (nI 9)]) x mn_sg_needWithin mc_sg_needWithin (Or.inl ww_379) ww_380 ww_54 rfl dd_sg_letter_9) (kk_G_within_no hfl hq1) (Nat.le_trans (Nat.le_of_ble_eq_true rfl) hfr) (Nat.le_trans (Nat.le_of_ble_eq_true rfl) hlo) (Nat.le_trans (Nat.le_of_ble_eq_true rfl) hce) (Nat.le_trans (Nat.le_of_ble_eq_true rfl) hsl) hH hS (fun v σa t0 H locs hp193 ht0 hvm hzz hH hS => by obtain ⟨a, ho, -⟩ := hp193; cases ho) (fun a σa t0 H locs hp193 ht0 hvm hzz hH hS => ?_)
      obtain ⟨a, ho, hT, hσ⟩ := hp193
      cases ho
      rw [hσ] at hH
      exact mp_ro hlk hex (by decide) (by decide) hH hS hT ht0 hvm (fun t hT => ⟨a, rfl, hT, rfl⟩)
    · skip
      exact (hQ.elim hq0 hq1).elim
set_option maxRecDepth 100000 in
set_option maxHeartbeats 4000000 in
theorem kk_X_state_1 {l : Launch} {D : va_G} {ar : Nat → ClassId} {base : Nat} {σ : mp_M} {ad : Nat → Nat → Nat} {rg : Nat → Bool} {pl : Nat → Nat} {V M : fV} {k0 k1 : Int32} (hL : Lay ar ad rg pl V M σ) (hfl : l.flags = flags0) (hQ : (k0 < 0 ∨ nI 25 ≤ k0) ∨ (k1 < 0 ∨ nI 20 ≤ k1)) : CN l D ar base yy_sg_state prog_1_method_13_code 4 (Option.some Jvm.ClassFile.FieldType.int) [] 7 94 6 36 [.ref (ad 0 0), .int k0, .int k1] σ (fun o σ' t => ∃ a, o = .threw a ∧ mp_T mp_iae a t ∧ σ' = σ) := by
  refine mp_in (Nat.le_of_ble_eq_true rfl) ?_
  intro p e R s m below meth c x hfr hlo hce hsl hr hlk hin hex hG hB ls H hH0 hH hS hl
  have hl : lv_has ls 4 [(0, .ref (ad 0 0)), (1, .int k0), (2, .int k1)] := hl
  refine lv_iload_n x.1 x.2.1 dd_sg_state_0 rfl (lv_at hl 1 rfl) ?_
  by_cases hq0 : k0 < 0 ∨ nI 25 ≤ k0
  · skip
    refine mp_call x (wt_mv base) hG hB hl.1 (mp_invS (av := [.int k0]) x mn_sg_needShop mc_sg_needShop (Or.inl ww_425) ww_426 ww_54 rfl dd_sg_state_1) (kk_G_shop_no hfl hq0) (Nat.le_trans (Nat.le_of_ble_eq_true rfl) hfr) (Nat.le_trans (Nat.le_of_ble_eq_true rfl) hlo) (Nat.le_trans (Nat.le_of_ble_eq_true rfl) hce) (Nat.le_trans (Nat.le_of_ble_eq_true rfl) hsl) hH hS (fun v σa t0 H locs hp194 ht0 hvm hzz hH hS => by obtain ⟨a, ho, -⟩ := hp194; cases ho) (fun a σa t0 H locs hp194 ht0 hvm hzz hH hS => ?_)
    obtain ⟨a, ho, hT, hσ⟩ := hp194
    cases ho
    rw [hσ] at hH
    exact mp_ro hlk hex (by decide) (by decide) hH hS hT ht0 hvm (fun t hT => ⟨a, rfl, hT, rfl⟩)
  · skip
    refine mp_call x (wt_mv base) hG hB hl.1 (mp_invS (av := [.int k0]) x mn_sg_needShop mc_sg_needShop (Or.inl ww_425) ww_426 ww_54 rfl dd_sg_state_1) (kk_G_shop_ok hfl hq0) (Nat.le_trans (Nat.le_of_ble_eq_true rfl) hfr) (Nat.le_trans (Nat.le_of_ble_eq_true rfl) hlo) (Nat.le_trans (Nat.le_of_ble_eq_true rfl) hce) (Nat.le_trans (Nat.le_of_ble_eq_true rfl) hsl) hH hS (fun v σa t0 H locs hp195 ht0 hvm hzz hH hS => ?_) (fun _ _ _ _ _ hz _ _ _ _ _ => by cases hz.1)
    obtain ⟨ho, hσ⟩ := hp195
    cases ho
    rw [hσ] at hH
    refine W.eq (g2 := F0 m 4 ls []) rfl ?_
    refine lv_iload_n x.1 x.2.1 dd_sg_state_4 rfl (lv_at hl 2 rfl) ?_
    by_cases hq1 : k1 < 0 ∨ nI 20 ≤ k1
    · skip
      refine mp_call x (wt_mv base) hG hB hl.1 (mp_invS (av := [.int k1]) x mn_sg_needPrescription mc_sg_needPrescription (Or.inl ww_309) ww_310 ww_54 rfl dd_sg_state_5) (kk_G_pres_no hfl hq1) (Nat.le_trans (Nat.le_of_ble_eq_true rfl) hfr) (Nat.le_trans (Nat.le_of_ble_eq_true rfl) hlo) (Nat.le_trans (Nat.le_of_ble_eq_true rfl) hce) (Nat.le_trans (Nat.le_of_ble_eq_true rfl) hsl) hH hS (fun v σa t0 H locs hp196 ht0 hvm hzz hH hS => by obtain ⟨a, ho, -⟩ := hp196; cases ho) (fun a σa t0 H locs hp196 ht0 hvm hzz hH hS => ?_)
      obtain ⟨a, ho, hT, hσ⟩ := hp196
      cases ho
      rw [hσ] at hH
      exact mp_ro hlk hex (by decide) (by decide) hH hS hT ht0 hvm (fun t hT => ⟨a, rfl, hT, rfl⟩)
    · skip
      exact (hQ.elim hq0 hq1).elim
set_option maxRecDepth 100000 in
set_option maxHeartbeats 4000000 in
theorem kk_X_granted_1 {l : Launch} {D : va_G} {ar : Nat → ClassId} {base : Nat} {σ : mp_M} {ad : Nat → Nat → Nat} {rg : Nat → Bool} {pl : Nat → Nat} {V M : fV} {k0 k1 k2 k3 : Int32} (hL : Lay ar ad rg pl V M σ) (hfl : l.flags = flags0) (hQ : (k0 < 0 ∨ nI 25 ≤ k0) ∨ (k1 < 0 ∨ nI 20 ≤ k1) ∨ (k2 < nI 1 ∨ nI 12 < k2)) : CN l D ar base yy_sg_granted prog_1_method_14_code 6 (Option.some Jvm.ClassFile.FieldType.int) [] 7 96 6 36 [.ref (ad 0 0), .int k0, .int k1, .int k2, .int k3] σ (fun o σ' t => ∃ a, o = .threw a ∧ mp_T mp_iae a t ∧ σ' = σ) := by
  refine mp_in (Nat.le_of_ble_eq_true rfl) ?_
  intro p e R s m below meth c x hfr hlo hce hsl hr hlk hin hex hG hB ls H hH0 hH hS hl
  have hl : lv_has ls 6 [(0, .ref (ad 0 0)), (1, .int k0), (2, .int k1), (3, .int k2), (4, .int k3)] := hl
  refine lv_iload_n x.1 x.2.1 dd_sg_granted_0 rfl (lv_at hl 1 rfl) ?_
  by_cases hq0 : k0 < 0 ∨ nI 25 ≤ k0
  · skip
    refine mp_call x (wt_mv base) hG hB hl.1 (mp_invS (av := [.int k0]) x mn_sg_needShop mc_sg_needShop (Or.inl ww_425) ww_426 ww_54 rfl dd_sg_granted_1) (kk_G_shop_no hfl hq0) (Nat.le_trans (Nat.le_of_ble_eq_true rfl) hfr) (Nat.le_trans (Nat.le_of_ble_eq_true rfl) hlo) (Nat.le_trans (Nat.le_of_ble_eq_true rfl) hce) (Nat.le_trans (Nat.le_of_ble_eq_true rfl) hsl) hH hS (fun v σa t0 H locs hp197 ht0 hvm hzz hH hS => by obtain ⟨a, ho, -⟩ := hp197; cases ho) (fun a σa t0 H locs hp197 ht0 hvm hzz hH hS => ?_)
    obtain ⟨a, ho, hT, hσ⟩ := hp197
    cases ho
    rw [hσ] at hH
    exact mp_ro hlk hex (by decide) (by decide) hH hS hT ht0 hvm (fun t hT => ⟨a, rfl, hT, rfl⟩)
  · skip
    refine mp_call x (wt_mv base) hG hB hl.1 (mp_invS (av := [.int k0]) x mn_sg_needShop mc_sg_needShop (Or.inl ww_425) ww_426 ww_54 rfl dd_sg_granted_1) (kk_G_shop_ok hfl hq0) (Nat.le_trans (Nat.le_of_ble_eq_true rfl) hfr) (Nat.le_trans (Nat.le_of_ble_eq_true rfl) hlo) (Nat.le_trans (Nat.le_of_ble_eq_true rfl) hce) (Nat.le_trans (Nat.le_of_ble_eq_true rfl) hsl) hH hS (fun v σa t0 H locs hp198 ht0 hvm hzz hH hS => ?_) (fun _ _ _ _ _ hz _ _ _ _ _ => by cases hz.1)
    obtain ⟨ho, hσ⟩ := hp198
    cases ho
    rw [hσ] at hH
    refine W.eq (g2 := F0 m 4 ls []) rfl ?_
    refine lv_iload_n x.1 x.2.1 dd_sg_granted_4 rfl (lv_at hl 2 rfl) ?_
    by_cases hq1 : k1 < 0 ∨ nI 20 ≤ k1
    · skip
      refine mp_call x (wt_mv base) hG hB hl.1 (mp_invS (av := [.int k1]) x mn_sg_needPrescription mc_sg_needPrescription (Or.inl ww_309) ww_310 ww_54 rfl dd_sg_granted_5) (kk_G_pres_no hfl hq1) (Nat.le_trans (Nat.le_of_ble_eq_true rfl) hfr) (Nat.le_trans (Nat.le_of_ble_eq_true rfl) hlo) (Nat.le_trans (Nat.le_of_ble_eq_true rfl) hce) (Nat.le_trans (Nat.le_of_ble_eq_true rfl) hsl) hH hS (fun v σa t0 H locs hp199 ht0 hvm hzz hH hS => by obtain ⟨a, ho, -⟩ := hp199; cases ho) (fun a σa t0 H locs hp199 ht0 hvm hzz hH hS => ?_)
      obtain ⟨a, ho, hT, hσ⟩ := hp199
      cases ho
      rw [hσ] at hH
      exact mp_ro hlk hex (by decide) (by decide) hH hS hT ht0 hvm (fun t hT => ⟨a, rfl, hT, rfl⟩)
    · skip
      refine mp_call x (wt_mv base) hG hB hl.1 (mp_invS (av := [.int k1]) x mn_sg_needPrescription mc_sg_needPrescription (Or.inl ww_309) ww_310 ww_54 rfl dd_sg_granted_5) (kk_G_pres_ok hfl hq1) (Nat.le_trans (Nat.le_of_ble_eq_true rfl) hfr) (Nat.le_trans (Nat.le_of_ble_eq_true rfl) hlo) (Nat.le_trans (Nat.le_of_ble_eq_true rfl) hce) (Nat.le_trans (Nat.le_of_ble_eq_true rfl) hsl) hH hS (fun v σa t0 H locs hp200 ht0 hvm hzz hH hS => ?_) (fun _ _ _ _ _ hz _ _ _ _ _ => by cases hz.1)
      obtain ⟨ho, hσ⟩ := hp200
      cases ho
      rw [hσ] at hH
      refine W.eq (g2 := F0 m 8 ls []) rfl ?_
      refine lv_iload_n x.1 x.2.1 dd_sg_granted_8 rfl (lv_at hl 3 rfl) ?_
      refine lv_iconst (v := nI 1) x.1 x.2.1 dd_sg_granted_9 (by decide +kernel) ?_
      refine lv_bipush (v := nI 12) x.1 x.2.1 dd_sg_granted_10 (by decide +kernel) ?_
      by_cases hq2 : k2 < nI 1 ∨ nI 12 < k2
      · skip
        refine mp_call x (wt_mv base) hG hB hl.1 (mp_invS (av := [.int k2, .int (nI 1), .int (nI 12)]) x mn_sg_needWithin mc_sg_needWithin (Or.inl ww_379) ww_380 ww_54 rfl dd_sg_granted_12) (kk_G_within_no hfl hq2) (Nat.le_trans (Nat.le_of_ble_eq_true rfl) hfr) (Nat.le_trans (Nat.le_of_ble_eq_true rfl) hlo) (Nat.le_trans (Nat.le_of_ble_eq_true rfl) hce) (Nat.le_trans (Nat.le_of_ble_eq_true rfl) hsl) hH hS (fun v σa t0 H locs hp201 ht0 hvm hzz hH hS => by obtain ⟨a, ho, -⟩ := hp201; cases ho) (fun a σa t0 H locs hp201 ht0 hvm hzz hH hS => ?_)
        obtain ⟨a, ho, hT, hσ⟩ := hp201
        cases ho
        rw [hσ] at hH
        exact mp_ro hlk hex (by decide) (by decide) hH hS hT ht0 hvm (fun t hT => ⟨a, rfl, hT, rfl⟩)
      · skip
        exact (hQ.elim hq0 (fun z => z.elim hq1 hq2)).elim
set_option maxRecDepth 100000 in
set_option maxHeartbeats 4000000 in
theorem kk_X_kept_1 {l : Launch} {D : va_G} {ar : Nat → ClassId} {base : Nat} {σ : mp_M} {ad : Nat → Nat → Nat} {rg : Nat → Bool} {pl : Nat → Nat} {V M : fV} {k0 k1 k2 : Int32} (hL : Lay ar ad rg pl V M σ) (hfl : l.flags = flags0) (hQ : (k0 < 0 ∨ nI 25 ≤ k0) ∨ (k1 < 0 ∨ nI 20 ≤ k1) ∨ (k2 < nI 0 ∨ nI 8 < k2)) : CN l D ar base yy_sg_kept prog_1_method_15_code 4 (Option.some Jvm.ClassFile.FieldType.int) [] 7 96 6 36 [.ref (ad 0 0), .int k0, .int k1, .int k2] σ (fun o σ' t => ∃ a, o = .threw a ∧ mp_T mp_iae a t ∧ σ' = σ) := by
  refine mp_in (Nat.le_of_ble_eq_true rfl) ?_
  intro p e R s m below meth c x hfr hlo hce hsl hr hlk hin hex hG hB ls H hH0 hH hS hl
  have hl : lv_has ls 4 [(0, .ref (ad 0 0)), (1, .int k0), (2, .int k1), (3, .int k2)] := hl
  refine lv_iload_n x.1 x.2.1 dd_sg_kept_0 rfl (lv_at hl 1 rfl) ?_
  by_cases hq0 : k0 < 0 ∨ nI 25 ≤ k0
  · skip
    refine mp_call x (wt_mv base) hG hB hl.1 (mp_invS (av := [.int k0]) x mn_sg_needShop mc_sg_needShop (Or.inl ww_425) ww_426 ww_54 rfl dd_sg_kept_1) (kk_G_shop_no hfl hq0) (Nat.le_trans (Nat.le_of_ble_eq_true rfl) hfr) (Nat.le_trans (Nat.le_of_ble_eq_true rfl) hlo) (Nat.le_trans (Nat.le_of_ble_eq_true rfl) hce) (Nat.le_trans (Nat.le_of_ble_eq_true rfl) hsl) hH hS (fun v σa t0 H locs hp202 ht0 hvm hzz hH hS => by obtain ⟨a, ho, -⟩ := hp202; cases ho) (fun a σa t0 H locs hp202 ht0 hvm hzz hH hS => ?_)
    obtain ⟨a, ho, hT, hσ⟩ := hp202
    cases ho
    rw [hσ] at hH
    exact mp_ro hlk hex (by decide) (by decide) hH hS hT ht0 hvm (fun t hT => ⟨a, rfl, hT, rfl⟩)
  · skip
    refine mp_call x (wt_mv base) hG hB hl.1 (mp_invS (av := [.int k0]) x mn_sg_needShop mc_sg_needShop (Or.inl ww_425) ww_426 ww_54 rfl dd_sg_kept_1) (kk_G_shop_ok hfl hq0) (Nat.le_trans (Nat.le_of_ble_eq_true rfl) hfr) (Nat.le_trans (Nat.le_of_ble_eq_true rfl) hlo) (Nat.le_trans (Nat.le_of_ble_eq_true rfl) hce) (Nat.le_trans (Nat.le_of_ble_eq_true rfl) hsl) hH hS (fun v σa t0 H locs hp203 ht0 hvm hzz hH hS => ?_) (fun _ _ _ _ _ hz _ _ _ _ _ => by cases hz.1)
    obtain ⟨ho, hσ⟩ := hp203
    cases ho
    rw [hσ] at hH
    refine W.eq (g2 := F0 m 4 ls []) rfl ?_
    refine lv_iload_n x.1 x.2.1 dd_sg_kept_4 rfl (lv_at hl 2 rfl) ?_
    by_cases hq1 : k1 < 0 ∨ nI 20 ≤ k1
    · skip
      refine mp_call x (wt_mv base) hG hB hl.1 (mp_invS (av := [.int k1]) x mn_sg_needPrescription mc_sg_needPrescription (Or.inl ww_309) ww_310 ww_54 rfl dd_sg_kept_5) (kk_G_pres_no hfl hq1) (Nat.le_trans (Nat.le_of_ble_eq_true rfl) hfr) (Nat.le_trans (Nat.le_of_ble_eq_true rfl) hlo) (Nat.le_trans (Nat.le_of_ble_eq_true rfl) hce) (Nat.le_trans (Nat.le_of_ble_eq_true rfl) hsl) hH hS (fun v σa t0 H locs hp204 ht0 hvm hzz hH hS => by obtain ⟨a, ho, -⟩ := hp204; cases ho) (fun a σa t0 H locs hp204 ht0 hvm hzz hH hS => ?_)
      obtain ⟨a, ho, hT, hσ⟩ := hp204
      cases ho
      rw [hσ] at hH
      exact mp_ro hlk hex (by decide) (by decide) hH hS hT ht0 hvm (fun t hT => ⟨a, rfl, hT, rfl⟩)
    · skip
      refine mp_call x (wt_mv base) hG hB hl.1 (mp_invS (av := [.int k1]) x mn_sg_needPrescription mc_sg_needPrescription (Or.inl ww_309) ww_310 ww_54 rfl dd_sg_kept_5) (kk_G_pres_ok hfl hq1) (Nat.le_trans (Nat.le_of_ble_eq_true rfl) hfr) (Nat.le_trans (Nat.le_of_ble_eq_true rfl) hlo) (Nat.le_trans (Nat.le_of_ble_eq_true rfl) hce) (Nat.le_trans (Nat.le_of_ble_eq_true rfl) hsl) hH hS (fun v σa t0 H locs hp205 ht0 hvm hzz hH hS => ?_) (fun _ _ _ _ _ hz _ _ _ _ _ => by cases hz.1)
      obtain ⟨ho, hσ⟩ := hp205
      cases ho
      rw [hσ] at hH
      refine W.eq (g2 := F0 m 8 ls []) rfl ?_
      refine lv_iload_n x.1 x.2.1 dd_sg_kept_8 rfl (lv_at hl 3 rfl) ?_
      refine lv_iconst (v := nI 0) x.1 x.2.1 dd_sg_kept_9 (by decide +kernel) ?_
      refine lv_bipush (v := nI 8) x.1 x.2.1 dd_sg_kept_10 (by decide +kernel) ?_
      by_cases hq2 : k2 < nI 0 ∨ nI 8 < k2
      · skip
        refine mp_call x (wt_mv base) hG hB hl.1 (mp_invS (av := [.int k2, .int (nI 0), .int (nI 8)]) x mn_sg_needWithin mc_sg_needWithin (Or.inl ww_379) ww_380 ww_54 rfl dd_sg_kept_12) (kk_G_within_no hfl hq2) (Nat.le_trans (Nat.le_of_ble_eq_true rfl) hfr) (Nat.le_trans (Nat.le_of_ble_eq_true rfl) hlo) (Nat.le_trans (Nat.le_of_ble_eq_true rfl) hce) (Nat.le_trans (Nat.le_of_ble_eq_true rfl) hsl) hH hS (fun v σa t0 H locs hp206 ht0 hvm hzz hH hS => by obtain ⟨a, ho, -⟩ := hp206; cases ho) (fun a σa t0 H locs hp206 ht0 hvm hzz hH hS => ?_)
        obtain ⟨a, ho, hT, hσ⟩ := hp206
        cases ho
        rw [hσ] at hH
        exact mp_ro hlk hex (by decide) (by decide) hH hS hT ht0 hvm (fun t hT => ⟨a, rfl, hT, rfl⟩)
      · skip
        exact (hQ.elim hq0 (fun z => z.elim hq1 hq2)).elim
set_option maxRecDepth 100000 in
set_option maxHeartbeats 4000000 in
theorem kk_X_total_1 {l : Launch} {D : va_G} {ar : Nat → ClassId} {base : Nat} {σ : mp_M} {ad : Nat → Nat → Nat} {rg : Nat → Bool} {pl : Nat → Nat} {V M : fV} {k0 : Int32} (hL : Lay ar ad rg pl V M σ) (hfl : l.flags = flags0) (hQ : (k0 < nI 0 ∨ nI 2 < k0)) : CN l D ar base yy_sg_total prog_1_method_17_code 2 (Option.some Jvm.ClassFile.FieldType.int) [] 7 96 6 36 [.ref (ad 0 0), .int k0] σ (fun o σ' t => ∃ a, o = .threw a ∧ mp_T mp_iae a t ∧ σ' = σ) := by
  refine mp_in (Nat.le_of_ble_eq_true rfl) ?_
  intro p e R s m below meth c x hfr hlo hce hsl hr hlk hin hex hG hB ls H hH0 hH hS hl
  have hl : lv_has ls 2 [(0, .ref (ad 0 0)), (1, .int k0)] := hl
  refine lv_iload_n x.1 x.2.1 dd_sg_total_0 rfl (lv_at hl 1 rfl) ?_
  refine lv_iconst (v := nI 0) x.1 x.2.1 dd_sg_total_1 (by decide +kernel) ?_
  refine lv_iconst (v := nI 2) x.1 x.2.1 dd_sg_total_2 (by decide +kernel) ?_
  by_cases hq0 : k0 < nI 0 ∨ nI 2 < k0
  · skip
    refine mp_call x (wt_mv base) hG hB hl.1 (mp_invS (av := [.int k0, .int (nI 0), .int (nI 2)]) x mn_sg_needWithin mc_sg_needWithin (Or.inl ww_379) ww_380 ww_54 rfl dd_sg_total_3) (kk_G_within_no hfl hq0) (Nat.le_trans (Nat.le_of_ble_eq_true rfl) hfr) (Nat.le_trans (Nat.le_of_ble_eq_true rfl) hlo) (Nat.le_trans (Nat.le_of_ble_eq_true rfl) hce) (Nat.le_trans (Nat.le_of_ble_eq_true rfl) hsl) hH hS (fun v σa t0 H locs hp207 ht0 hvm hzz hH hS => by obtain ⟨a, ho, -⟩ := hp207; cases ho) (fun a σa t0 H locs hp207 ht0 hvm hzz hH hS => ?_)
    obtain ⟨a, ho, hT, hσ⟩ := hp207
    cases ho
    rw [hσ] at hH
    exact mp_ro hlk hex (by decide) (by decide) hH hS hT ht0 hvm (fun t hT => ⟨a, rfl, hT, rfl⟩)
  · skip
    exact absurd hQ hq0
set_option maxRecDepth 100000 in
set_option maxHeartbeats 4000000 in
theorem kk_X_ask_0 {l : Launch} {D : va_G} {ar : Nat → ClassId} {base : Nat} {σ : mp_M} {ad : Nat → Nat → Nat} {rg : Nat → Bool} {pl : Nat → Nat} {V M : fV} {f n a0 b0 q0 nc g pr nx : Nat} (hL : Lay ar ad rg pl V M σ) (hfl : l.flags = flags0) (hrw : RW pl V f n) (ha : a0 < 25) (hb : b0 < 20) (hq0 : q0 ≤ 100000) (hg : rg b0 = true) (hup : upb V (nI a0) = true) (hc : V 34 (20 * a0 + b0) = nI nc) (hc2 : nc ≤ 12) (hla : lak V b0 (20 * a0 + b0) nc (nI q0) = nI 1) (h1 : V 33 (20 * a0 + b0) = nI g) (h2 : V 30 (20 * a0 + b0) = nI pr) (h4 : V 63 (20 * a0 + b0) = nI a0) (hgl : g < 2 ^ 30) (hp : pr < 2 ^ 30) (hnx : nxt (mx g (mx pr 0)) a0 = nx) : CN l D ar base yy_sg_ask prog_1_method_3_code 6 (Option.some Jvm.ClassFile.FieldType.int) [] 7 96 6 36 [.ref (ad 0 0), .int (nI a0), .int (nI b0), .int (nI q0)] σ (fun o σ' _ => o = .returned (some (.int (if nx = 0 then nI 0 else nI 25))) ∧ Lay ar ad rg pl (ssr pl f n nc (mu (mu (sen V (20 * a0 + b0)) 36 (20 * a0 + b0) (nI (nc + 1))) 37 (20 * a0 + b0) (nI q0 * nI 25 + nI a0)) (20 * a0 + b0) nx) M σ') := by
  refine mp_in (Nat.le_of_ble_eq_true rfl) ?_
  intro p e R s m below meth c x hfr hlo hce hsl hr hlk hin hex hG hB ls H hH0 hH hS hl
  have hl : lv_has ls 6 [(0, .ref (ad 0 0)), (1, .int (nI a0)), (2, .int (nI b0)), (3, .int (nI q0))] := hl
  obtain ⟨hf, hf2, hn, hn2, hpl⟩ := id hrw
  have hd : dk rg (20 * a0 + b0) := dk_of ha hb hg
  refine lv_iload_n x.1 x.2.1 dd_sg_ask_0 rfl (lv_at hl 1 rfl) ?_
  refine mp_call x (wt_mv base) hG hB hl.1 (mp_invS (av := [.int (nI a0)]) x mn_sg_needShop mc_sg_needShop (Or.inl ww_425) ww_426 ww_54 rfl dd_sg_ask_1) (kk_G_shop_ok hfl (in_ok (by omega) (by decide))) (Nat.le_trans (Nat.le_of_ble_eq_true rfl) hfr) (Nat.le_trans (Nat.le_of_ble_eq_true rfl) hlo) (Nat.le_trans (Nat.le_of_ble_eq_true rfl) hce) (Nat.le_trans (Nat.le_of_ble_eq_true rfl) hsl) hH hS (fun v σa t0 H locs hp208 ht0 hvm hzz hH hS => ?_) (fun _ _ _ _ _ hz _ _ _ _ _ => by cases hz.1)
  obtain ⟨ho, hσ⟩ := hp208
  cases ho
  rw [hσ] at hH
  refine W.eq (g2 := F0 m 4 ls []) rfl ?_
  refine lv_iload_n x.1 x.2.1 dd_sg_ask_4 rfl (lv_at hl 2 rfl) ?_
  refine mp_call x (wt_mv base) hG hB hl.1 (mp_invS (av := [.int (nI b0)]) x mn_sg_needPrescription mc_sg_needPrescription (Or.inl ww_309) ww_310 ww_54 rfl dd_sg_ask_5) (kk_G_pres_ok hfl (in_ok (by omega) (by decide))) (Nat.le_trans (Nat.le_of_ble_eq_true rfl) hfr) (Nat.le_trans (Nat.le_of_ble_eq_true rfl) hlo) (Nat.le_trans (Nat.le_of_ble_eq_true rfl) hce) (Nat.le_trans (Nat.le_of_ble_eq_true rfl) hsl) hH hS (fun v σa t0 H locs hp209 ht0 hvm hzz hH hS => ?_) (fun _ _ _ _ _ hz _ _ _ _ _ => by cases hz.1)
  obtain ⟨ho, hσ⟩ := hp209
  cases ho
  rw [hσ] at hH
  refine W.eq (g2 := F0 m 8 ls []) rfl ?_
  refine lv_iload_n x.1 x.2.1 dd_sg_ask_8 rfl (lv_at hl 3 rfl) ?_
  refine lv_iconst (v := nI 0) x.1 x.2.1 dd_sg_ask_9 (by decide +kernel) ?_
  refine lv_ldc (v := 100000) x.1 x.2.1 x.2.2.2.1 (x.2.2.2.2.1 _ ww_429) dd_sg_ask_10 ?_
  refine mn_top (w := nI 100000) (by decide +kernel) ?_
  refine mp_call x (wt_mv base) hG hB hl.1 (mp_invS (av := [.int (nI q0), .int (nI 0), .int (nI 100000)]) x mn_sg_needWithin mc_sg_needWithin (Or.inl ww_379) ww_380 ww_54 rfl dd_sg_ask_12) (kk_G_within_ok hfl (wi_ok (by omega) (by omega) (by decide))) (Nat.le_trans (Nat.le_of_ble_eq_true rfl) hfr) (Nat.le_trans (Nat.le_of_ble_eq_true rfl) hlo) (Nat.le_trans (Nat.le_of_ble_eq_true rfl) hce) (Nat.le_trans (Nat.le_of_ble_eq_true rfl) hsl) hH hS (fun v σa t0 H locs hp210 ht0 hvm hzz hH hS => ?_) (fun _ _ _ _ _ hz _ _ _ _ _ => by cases hz.1)
  obtain ⟨ho, hσ⟩ := hp210
  cases ho
  rw [hσ] at hH
  refine W.eq (g2 := F0 m 15 ls []) rfl ?_
  refine lv_aload_n x.1 x.2.1 dd_sg_ask_15 rfl (lv_at hl 0 rfl) ?_
  refine mp_get x hH (la0 hL) fg_sg_11 rfl dd_sg_ask_16 ?_
  refine lv_iload_n x.1 x.2.1 dd_sg_ask_19 rfl (lv_at hl 2 rfl) ?_
  refine kps_ld x hH hL (j := b0) (by omega) hg dd_sg_ask_20 ?_
  refine lv_astore (lv' := [(4, .ref (ad 7 b0)), (0, .ref (ad 0 0)), (1, .int (nI a0)), (2, .int (nI b0)), (3, .int (nI q0))]) x.1 x.2.1 dd_sg_ask_21 hl (by decide) rfl (fun ls hl => ?_)
  refine lv_aload x.1 x.2.1 dd_sg_ask_23 (lv_at hl 0 rfl) ?_
  refine lv_ifnonnull (tgt := 38) x.1 x.2.1 dd_sg_ask_25 (by decide) ?_
  refine lv_aload_n x.1 x.2.1 dd_sg_ask_38 rfl (lv_at hl 1 rfl) ?_
  refine lv_iload_n x.1 x.2.1 dd_sg_ask_39 rfl (lv_at hl 2 rfl) ?_
  refine mp_call x (wt_mv base) hG hB hl.1 (mp_invV (av := [.int (nI a0)]) x hH (la0 hL) rfl rfl mn_sg_needUp mc_sg_needUp (Or.inl ww_431) ww_433 ww_3 rfl dd_sg_ask_40) (kk_G_up_ok hL hfl hup) (Nat.le_trans (Nat.le_of_ble_eq_true rfl) hfr) (Nat.le_trans (Nat.le_of_ble_eq_true rfl) hlo) (Nat.le_trans (Nat.le_of_ble_eq_true rfl) hce) (Nat.le_trans (Nat.le_of_ble_eq_true rfl) hsl) hH hS (fun v σa t0 H locs hp211 ht0 hvm hzz hH hS => ?_) (fun _ _ _ _ _ hz _ _ _ _ _ => by cases hz.1)
  obtain ⟨ho, hσ⟩ := hp211
  cases ho
  rw [hσ] at hH
  refine W.eq (g2 := F0 m 43 ls []) rfl ?_
  refine lv_aload x.1 x.2.1 dd_sg_ask_43 (lv_at hl 0 rfl) ?_
  refine mp_get x hH (la7 hL ⟨by omega, hg⟩) fg_sg_62 rfl dd_sg_ask_45 ?_
  refine lv_iload_n x.1 x.2.1 dd_sg_ask_48 rfl (lv_at hl 2 rfl) ?_
  refine kds_ld x hH hL (j := a0) ⟨by omega, hg⟩ (by omega) dd_sg_ask_49 ?_
  refine lv_astore (lv' := [(5, .ref (ad 9 (20 * a0 + b0))), (4, .ref (ad 7 b0)), (0, .ref (ad 0 0)), (1, .int (nI a0)), (2, .int (nI b0)), (3, .int (nI q0))]) x.1 x.2.1 dd_sg_ask_50 hl (by decide) rfl (fun ls hl => ?_)
  refine lv_aload x.1 x.2.1 dd_sg_ask_52 (lv_at hl 1 rfl) ?_
  refine lv_aload x.1 x.2.1 dd_sg_ask_54 (lv_at hl 0 rfl) ?_
  refine lv_iload_n x.1 x.2.1 dd_sg_ask_56 rfl (lv_at hl 5 rfl) ?_
  refine mp_call x (wt_mv base) hG hB hl.1 (mp_invV (av := [.ref (ad 9 (20 * a0 + b0)), .int (nI q0)]) x hH (la7 hL ⟨by omega, hg⟩) rfl rfl mn_ps_letsAsk mc_ps_letsAsk (Or.inr ⟨_, ww_440⟩) ww_442 ww_5 rfl dd_sg_ask_57) (kk_P_letsAsk (nc := nc) hL ⟨by omega, hg⟩ hd (hc) (by omega)) (Nat.le_trans (Nat.le_of_ble_eq_true rfl) hfr) (Nat.le_trans (Nat.le_of_ble_eq_true rfl) hlo) (Nat.le_trans (Nat.le_of_ble_eq_true rfl) hce) (Nat.le_trans (Nat.le_of_ble_eq_true rfl) hsl) hH hS (fun v σa t0 H locs hp212 ht0 hvm hzz hH hS => ?_) (fun _ _ _ _ _ hz _ _ _ _ _ => by cases hz.1)
  obtain ⟨ho, hσ⟩ := hp212
  cases ho
  rw [hσ] at hH
  refine W.eq (g2 := F0 m 60 ls [.int (lak V b0 (20 * a0 + b0) nc (nI q0))]) rfl ?_
  refine mn_top (w := nI 1) hla ?_
  refine lv_if_ne (tgt := 73) x.1 x.2.1 dd_sg_ask_60 (by decide) (fun c213 => ?_) (fun c213 => absurd c213 (by decide +kernel))
  refine lv_aload x.1 x.2.1 dd_sg_ask_73 (lv_at hl 0 rfl) ?_
  refine mp_get x hH (la9 hL hd) fg_sg_72 rfl dd_sg_ask_75 ?_
  refine lv_aload x.1 x.2.1 dd_sg_ask_78 (lv_at hl 0 rfl) ?_
  refine mp_call x (wt_mv base) hG hB hl.1 (mp_invV (av := []) x hH (la9 hL hd) rfl rfl mn_dk_openSupply mc_dk_openSupply (Or.inr ⟨_, ww_456⟩) ww_458 ww_8 rfl dd_sg_ask_80) (kk_D_open (nc := nc) hL hd (hc)) (Nat.le_trans (Nat.le_of_ble_eq_true rfl) hfr) (Nat.le_trans (Nat.le_of_ble_eq_true rfl) hlo) (Nat.le_trans (Nat.le_of_ble_eq_true rfl) hce) (Nat.le_trans (Nat.le_of_ble_eq_true rfl) hsl) hH hS (fun v σa t0 H locs hp214 ht0 hvm hzz hH hS => ?_) (fun _ _ _ _ _ hz _ _ _ _ _ => by cases hz.1)
  obtain ⟨ho, hσ⟩ := hp214
  cases ho
  rw [hσ] at hH
  refine W.eq (g2 := F0 m 83 ls [.int (nI (nc + 1)), .ref (ad 12 (20 * a0 + b0))]) rfl ?_
  refine lv_iload_n x.1 x.2.1 dd_sg_ask_83 rfl (lv_at hl 3 rfl) ?_
  refine lv_iload_n x.1 x.2.1 dd_sg_ask_84 rfl (lv_at hl 5 rfl) ?_
  refine mp_call x (wt_mv base) hG hB hl.1 (mp_invS (av := [.int (nI a0), .int (nI q0)]) x mn_sg_pairOf mc_sg_pairOf (Or.inl ww_460) ww_461 ww_54 rfl dd_sg_ask_85) (kk_sg_pairOf ) (Nat.le_trans (Nat.le_of_ble_eq_true rfl) hfr) (Nat.le_trans (Nat.le_of_ble_eq_true rfl) hlo) (Nat.le_trans (Nat.le_of_ble_eq_true rfl) hce) (Nat.le_trans (Nat.le_of_ble_eq_true rfl) hsl) hH hS (fun v σa t0 H locs hp215 ht0 hvm hzz hH hS => ?_) (fun _ _ _ _ _ hz _ _ _ _ _ => by cases hz.1)
  obtain ⟨ho, hσ⟩ := hp215
  cases ho
  rw [hσ] at hH
  refine W.eq (g2 := F0 m 88 ls [.int ((nI q0) * nI 25 + (nI a0)), .int (nI (nc + 1)), .ref (ad 12 (20 * a0 + b0))]) rfl ?_
  refine mp_call x (wt_mv base) hG hB hl.1 (mp_invV (av := [.int (nI (nc + 1)), .int ((nI q0) * nI 25 + (nI a0))]) x hH (la12 hL hd) rfl rfl mn_ak_begin mc_ak_begin (Or.inr ⟨_, ww_463⟩) ww_465 ww_9 rfl dd_sg_ask_88) (kk_A_begin hL hd) (Nat.le_trans (Nat.le_of_ble_eq_true rfl) hfr) (Nat.le_trans (Nat.le_of_ble_eq_true rfl) hlo) (Nat.le_trans (Nat.le_of_ble_eq_true rfl) hce) (Nat.le_trans (Nat.le_of_ble_eq_true rfl) hsl) hH hS (fun v σa t0 H locs hp216 ht0 hvm hzz hH hS => ?_) (fun _ _ _ _ _ hz _ _ _ _ _ => by cases hz.1)
  obtain ⟨ho, hL⟩ := hp216
  cases ho
  refine W.eq (g2 := F0 m 91 ls []) rfl ?_
  refine lv_aload_n x.1 x.2.1 dd_sg_ask_91 rfl (lv_at hl 2 rfl) ?_
  refine lv_aload x.1 x.2.1 dd_sg_ask_92 (lv_at hl 0 rfl) ?_
  refine mp_call x (wt_mv base) hG hB hl.1 (mp_invV (av := [.ref (ad 9 (20 * a0 + b0))]) x hH (la0 hL) rfl rfl mn_sg_startRound mc_sg_startRound (Or.inl ww_467) ww_469 ww_10 rfl dd_sg_ask_94) (kk_G_startRound (nc := nc) (g := g) (pr := pr) (rf := 0) (sp := a0) hL ⟨(mu_k (by decide)).trans ((mu_k (by decide)).trans ((sen_o (by omega)).trans (hf))), by omega, (mu_k (by decide)).trans ((mu_k (by decide)).trans ((sen_o (by omega)).trans (hn))), by omega, hpl⟩ hd ((mu_k (by decide)).trans ((mu_k (by decide)).trans ((sen_o (by omega)).trans (hc)))) (by omega) ((mu_k (by decide)).trans ((mu_k (by decide)).trans ((sen_o (by omega)).trans (h1)))) ((mu_k (by decide)).trans ((mu_k (by decide)).trans ((sen_o (by omega)).trans (h2)))) ((mu_k (by decide)).trans ((mu_k (by decide)).trans (sen_41))) ((mu_k (by decide)).trans ((mu_k (by decide)).trans ((sen_o (by omega)).trans (h4)))) (by omega) (by omega) (by omega) (by omega) hnx) (Nat.le_trans (Nat.le_of_ble_eq_true rfl) hfr) (Nat.le_trans (Nat.le_of_ble_eq_true rfl) hlo) (Nat.le_trans (Nat.le_of_ble_eq_true rfl) hce) (Nat.le_trans (Nat.le_of_ble_eq_true rfl) hsl) hH hS (fun v σa t0 H locs hp217 ht0 hvm hzz hH hS => ?_) (fun _ _ _ _ _ hz _ _ _ _ _ => by cases hz.1)
  obtain ⟨ho, hL⟩ := hp217
  cases ho
  refine W.eq (g2 := F0 m 97 ls [.int (if nx = 0 then nI 0 else nI 25)]) rfl ?_
  exact mp_ri x hr hlk (by decide) (by decide) hH hS (fun _ => ⟨rfl, hL⟩) dd_sg_ask_97
-- ask: the second exception
set_option maxRecDepth 100000 in
set_option maxHeartbeats 4000000 in
theorem kk_X_ask_2a {l : Launch} {D : va_G} {ar : Nat → ClassId} {base : Nat} {σ : mp_M} {ad : Nat → Nat → Nat} {rg : Nat → Bool} {pl : Nat → Nat} {V M : fV} {a0 b0 q0 nc : Nat} (hL : Lay ar ad rg pl V M σ) (hfl : l.flags = flags0) (ha : a0 < 25) (hb : b0 < 20) (hq0 : q0 ≤ 100000) (hg : rg b0 = false) : CN l D ar base yy_sg_ask prog_1_method_3_code 6 (Option.some Jvm.ClassFile.FieldType.int) [] 7 96 6 36 [.ref (ad 0 0), .int (nI a0), .int (nI b0), .int (nI q0)] σ (fun o σ' t => ∃ a, o = .threw a ∧ mp_T mp_ise a t ∧ σ' = σ) := by
  refine mp_in (Nat.le_of_ble_eq_true rfl) ?_
  intro p e R s m below meth c x hfr hlo hce hsl hr hlk hin hex hG hB ls H hH0 hH hS hl
  have hl : lv_has ls 6 [(0, .ref (ad 0 0)), (1, .int (nI a0)), (2, .int (nI b0)), (3, .int (nI q0))] := hl
  refine lv_iload_n x.1 x.2.1 dd_sg_ask_0 rfl (lv_at hl 1 rfl) ?_
  refine mp_call x (wt_mv base) hG hB hl.1 (mp_invS (av := [.int (nI a0)]) x mn_sg_needShop mc_sg_needShop (Or.inl ww_425) ww_426 ww_54 rfl dd_sg_ask_1) (kk_G_shop_ok hfl (in_ok (by omega) (by decide))) (Nat.le_trans (Nat.le_of_ble_eq_true rfl) hfr) (Nat.le_trans (Nat.le_of_ble_eq_true rfl) hlo) (Nat.le_trans (Nat.le_of_ble_eq_true rfl) hce) (Nat.le_trans (Nat.le_of_ble_eq_true rfl) hsl) hH hS (fun v σa t0 H locs hp218 ht0 hvm hzz hH hS => ?_) (fun _ _ _ _ _ hz _ _ _ _ _ => by cases hz.1)
  obtain ⟨ho, hσ⟩ := hp218
  cases ho
  rw [hσ] at hH
  refine W.eq (g2 := F0 m 4 ls []) rfl ?_
  refine lv_iload_n x.1 x.2.1 dd_sg_ask_4 rfl (lv_at hl 2 rfl) ?_
  refine mp_call x (wt_mv base) hG hB hl.1 (mp_invS (av := [.int (nI b0)]) x mn_sg_needPrescription mc_sg_needPrescription (Or.inl ww_309) ww_310 ww_54 rfl dd_sg_ask_5) (kk_G_pres_ok hfl (in_ok (by omega) (by decide))) (Nat.le_trans (Nat.le_of_ble_eq_true rfl) hfr) (Nat.le_trans (Nat.le_of_ble_eq_true rfl) hlo) (Nat.le_trans (Nat.le_of_ble_eq_true rfl) hce) (Nat.le_trans (Nat.le_of_ble_eq_true rfl) hsl) hH hS (fun v σa t0 H locs hp219 ht0 hvm hzz hH hS => ?_) (fun _ _ _ _ _ hz _ _ _ _ _ => by cases hz.1)
  obtain ⟨ho, hσ⟩ := hp219
  cases ho
  rw [hσ] at hH
  refine W.eq (g2 := F0 m 8 ls []) rfl ?_
  refine lv_iload_n x.1 x.2.1 dd_sg_ask_8 rfl (lv_at hl 3 rfl) ?_
  refine lv_iconst (v := nI 0) x.1 x.2.1 dd_sg_ask_9 (by decide +kernel) ?_
  refine lv_ldc (v := 100000) x.1 x.2.1 x.2.2.2.1 (x.2.2.2.2.1 _ ww_429) dd_sg_ask_10 ?_
  refine mn_top (w := nI 100000) (by decide +kernel) ?_
  refine mp_call x (wt_mv base) hG hB hl.1 (mp_invS (av := [.int (nI q0), .int (nI 0), .int (nI 100000)]) x mn_sg_needWithin mc_sg_needWithin (Or.inl ww_379) ww_380 ww_54 rfl dd_sg_ask_12) (kk_G_within_ok hfl (wi_ok (by omega) (by omega) (by decide))) (Nat.le_trans (Nat.le_of_ble_eq_true rfl) hfr) (Nat.le_trans (Nat.le_of_ble_eq_true rfl) hlo) (Nat.le_trans (Nat.le_of_ble_eq_true rfl) hce) (Nat.le_trans (Nat.le_of_ble_eq_true rfl) hsl) hH hS (fun v σa t0 H locs hp220 ht0 hvm hzz hH hS => ?_) (fun _ _ _ _ _ hz _ _ _ _ _ => by cases hz.1)
  obtain ⟨ho, hσ⟩ := hp220
  cases ho
  rw [hσ] at hH
  refine W.eq (g2 := F0 m 15 ls []) rfl ?_
  refine lv_aload_n x.1 x.2.1 dd_sg_ask_15 rfl (lv_at hl 0 rfl) ?_
  refine mp_get x hH (la0 hL) fg_sg_11 rfl dd_sg_ask_16 ?_
  refine lv_iload_n x.1 x.2.1 dd_sg_ask_19 rfl (lv_at hl 2 rfl) ?_
  refine kps_ldN x hH hL (j := b0) (by omega) hg dd_sg_ask_20 ?_
  refine lv_astoreN (lv' := [(4, .null), (0, .ref (ad 0 0)), (1, .int (nI a0)), (2, .int (nI b0)), (3, .int (nI q0))]) x.1 x.2.1 dd_sg_ask_21 hl (by decide) rfl (fun ls hl => ?_)
  refine lv_aloadN x.1 x.2.1 dd_sg_ask_23 (lv_at hl 0 rfl) ?_
  refine lv_ifnonnullN x.1 x.2.1 dd_sg_ask_25 ?_
  exact kx_throw x hG hB hl.1 hfl hlk hex (cls := mp_ise) (tx := "the prescription is not registered") (by decide +kernel) ww_383 ww_384 ww_65 mp_own_ise rfl (by decide +kernel) dd_sg_ask_28 dd_sg_ask_31 dd_sg_ask_32 dd_sg_ask_34 dd_sg_ask_37 (Nat.le_trans (Nat.le_of_ble_eq_true rfl) hfr) (Nat.le_trans (Nat.le_of_ble_eq_true rfl) hlo) (Nat.le_trans (Nat.le_of_ble_eq_true rfl) hce) (Nat.le_trans (Nat.le_of_ble_eq_true rfl) hsl) (by decide) (by decide) hH hS (fun t a hT => ⟨a, rfl, hT, rfl⟩)
set_option maxRecDepth 100000 in
set_option maxHeartbeats 4000000 in
theorem kk_X_ask_2b {l : Launch} {D : va_G} {ar : Nat → ClassId} {base : Nat} {σ : mp_M} {ad : Nat → Nat → Nat} {rg : Nat → Bool} {pl : Nat → Nat} {V M : fV} {a0 b0 q0 nc : Nat} (hL : Lay ar ad rg pl V M σ) (hfl : l.flags = flags0) (ha : a0 < 25) (hb : b0 < 20) (hq0 : q0 ≤ 100000) (hg : rg b0 = true) (hup : upb V (nI a0) = false) : CN l D ar base yy_sg_ask prog_1_method_3_code 6 (Option.some Jvm.ClassFile.FieldType.int) [] 7 96 6 36 [.ref (ad 0 0), .int (nI a0), .int (nI b0), .int (nI q0)] σ (fun o σ' t => ∃ a, o = .threw a ∧ mp_T mp_ise a t ∧ σ' = σ) := by
  refine mp_in (Nat.le_of_ble_eq_true rfl) ?_
  intro p e R s m below meth c x hfr hlo hce hsl hr hlk hin hex hG hB ls H hH0 hH hS hl
  have hl : lv_has ls 6 [(0, .ref (ad 0 0)), (1, .int (nI a0)), (2, .int (nI b0)), (3, .int (nI q0))] := hl
  refine lv_iload_n x.1 x.2.1 dd_sg_ask_0 rfl (lv_at hl 1 rfl) ?_
  refine mp_call x (wt_mv base) hG hB hl.1 (mp_invS (av := [.int (nI a0)]) x mn_sg_needShop mc_sg_needShop (Or.inl ww_425) ww_426 ww_54 rfl dd_sg_ask_1) (kk_G_shop_ok hfl (in_ok (by omega) (by decide))) (Nat.le_trans (Nat.le_of_ble_eq_true rfl) hfr) (Nat.le_trans (Nat.le_of_ble_eq_true rfl) hlo) (Nat.le_trans (Nat.le_of_ble_eq_true rfl) hce) (Nat.le_trans (Nat.le_of_ble_eq_true rfl) hsl) hH hS (fun v σa t0 H locs hp221 ht0 hvm hzz hH hS => ?_) (fun _ _ _ _ _ hz _ _ _ _ _ => by cases hz.1)
  obtain ⟨ho, hσ⟩ := hp221
  cases ho
  rw [hσ] at hH
  refine W.eq (g2 := F0 m 4 ls []) rfl ?_
  refine lv_iload_n x.1 x.2.1 dd_sg_ask_4 rfl (lv_at hl 2 rfl) ?_
  refine mp_call x (wt_mv base) hG hB hl.1 (mp_invS (av := [.int (nI b0)]) x mn_sg_needPrescription mc_sg_needPrescription (Or.inl ww_309) ww_310 ww_54 rfl dd_sg_ask_5) (kk_G_pres_ok hfl (in_ok (by omega) (by decide))) (Nat.le_trans (Nat.le_of_ble_eq_true rfl) hfr) (Nat.le_trans (Nat.le_of_ble_eq_true rfl) hlo) (Nat.le_trans (Nat.le_of_ble_eq_true rfl) hce) (Nat.le_trans (Nat.le_of_ble_eq_true rfl) hsl) hH hS (fun v σa t0 H locs hp222 ht0 hvm hzz hH hS => ?_) (fun _ _ _ _ _ hz _ _ _ _ _ => by cases hz.1)
  obtain ⟨ho, hσ⟩ := hp222
  cases ho
  rw [hσ] at hH
  refine W.eq (g2 := F0 m 8 ls []) rfl ?_
  refine lv_iload_n x.1 x.2.1 dd_sg_ask_8 rfl (lv_at hl 3 rfl) ?_
  refine lv_iconst (v := nI 0) x.1 x.2.1 dd_sg_ask_9 (by decide +kernel) ?_
  refine lv_ldc (v := 100000) x.1 x.2.1 x.2.2.2.1 (x.2.2.2.2.1 _ ww_429) dd_sg_ask_10 ?_
  refine mn_top (w := nI 100000) (by decide +kernel) ?_
  refine mp_call x (wt_mv base) hG hB hl.1 (mp_invS (av := [.int (nI q0), .int (nI 0), .int (nI 100000)]) x mn_sg_needWithin mc_sg_needWithin (Or.inl ww_379) ww_380 ww_54 rfl dd_sg_ask_12) (kk_G_within_ok hfl (wi_ok (by omega) (by omega) (by decide))) (Nat.le_trans (Nat.le_of_ble_eq_true rfl) hfr) (Nat.le_trans (Nat.le_of_ble_eq_true rfl) hlo) (Nat.le_trans (Nat.le_of_ble_eq_true rfl) hce) (Nat.le_trans (Nat.le_of_ble_eq_true rfl) hsl) hH hS (fun v σa t0 H locs hp223 ht0 hvm hzz hH hS => ?_) (fun _ _ _ _ _ hz _ _ _ _ _ => by cases hz.1)
  obtain ⟨ho, hσ⟩ := hp223
  cases ho
  rw [hσ] at hH
  refine W.eq (g2 := F0 m 15 ls []) rfl ?_
  refine lv_aload_n x.1 x.2.1 dd_sg_ask_15 rfl (lv_at hl 0 rfl) ?_
  refine mp_get x hH (la0 hL) fg_sg_11 rfl dd_sg_ask_16 ?_
  refine lv_iload_n x.1 x.2.1 dd_sg_ask_19 rfl (lv_at hl 2 rfl) ?_
  refine kps_ld x hH hL (j := b0) (by omega) hg dd_sg_ask_20 ?_
  refine lv_astore (lv' := [(4, .ref (ad 7 b0)), (0, .ref (ad 0 0)), (1, .int (nI a0)), (2, .int (nI b0)), (3, .int (nI q0))]) x.1 x.2.1 dd_sg_ask_21 hl (by decide) rfl (fun ls hl => ?_)
  refine lv_aload x.1 x.2.1 dd_sg_ask_23 (lv_at hl 0 rfl) ?_
  refine lv_ifnonnull (tgt := 38) x.1 x.2.1 dd_sg_ask_25 (by decide) ?_
  refine lv_aload_n x.1 x.2.1 dd_sg_ask_38 rfl (lv_at hl 1 rfl) ?_
  refine lv_iload_n x.1 x.2.1 dd_sg_ask_39 rfl (lv_at hl 2 rfl) ?_
  refine mp_call x (wt_mv base) hG hB hl.1 (mp_invV (av := [.int (nI a0)]) x hH (la0 hL) rfl rfl mn_sg_needUp mc_sg_needUp (Or.inl ww_431) ww_433 ww_3 rfl dd_sg_ask_40) (kk_G_up_no hL hfl hup) (Nat.le_trans (Nat.le_of_ble_eq_true rfl) hfr) (Nat.le_trans (Nat.le_of_ble_eq_true rfl) hlo) (Nat.le_trans (Nat.le_of_ble_eq_true rfl) hce) (Nat.le_trans (Nat.le_of_ble_eq_true rfl) hsl) hH hS (fun v σa t0 H locs hp224 ht0 hvm hzz hH hS => by obtain ⟨a, ho, -⟩ := hp224; cases ho) (fun a σa t0 H locs hp224 ht0 hvm hzz hH hS => ?_)
  obtain ⟨a, ho, hT, hσ⟩ := hp224
  cases ho
  rw [hσ] at hH
  exact mp_ro hlk hex (by decide) (by decide) hH hS hT ht0 hvm (fun t hT => ⟨a, rfl, hT, rfl⟩)
set_option maxRecDepth 100000 in
set_option maxHeartbeats 4000000 in
theorem kk_X_ask_2c {l : Launch} {D : va_G} {ar : Nat → ClassId} {base : Nat} {σ : mp_M} {ad : Nat → Nat → Nat} {rg : Nat → Bool} {pl : Nat → Nat} {V M : fV} {a0 b0 q0 nc : Nat} (hL : Lay ar ad rg pl V M σ) (hfl : l.flags = flags0) (ha : a0 < 25) (hb : b0 < 20) (hq0 : q0 ≤ 100000) (hg : rg b0 = true) (hup : upb V (nI a0) = true) (hc : V 34 (20 * a0 + b0) = nI nc) (hc2 : nc ≤ 12) (hla : lak V b0 (20 * a0 + b0) nc (nI q0) = nI 0) : CN l D ar base yy_sg_ask prog_1_method_3_code 6 (Option.some Jvm.ClassFile.FieldType.int) [] 7 96 6 36 [.ref (ad 0 0), .int (nI a0), .int (nI b0), .int (nI q0)] σ (fun o σ' t => ∃ a, o = .threw a ∧ mp_T mp_ise a t ∧ σ' = σ) := by
  refine mp_in (Nat.le_of_ble_eq_true rfl) ?_
  intro p e R s m below meth c x hfr hlo hce hsl hr hlk hin hex hG hB ls H hH0 hH hS hl
  have hl : lv_has ls 6 [(0, .ref (ad 0 0)), (1, .int (nI a0)), (2, .int (nI b0)), (3, .int (nI q0))] := hl
  have hd : dk rg (20 * a0 + b0) := dk_of ha hb hg
  refine lv_iload_n x.1 x.2.1 dd_sg_ask_0 rfl (lv_at hl 1 rfl) ?_
  refine mp_call x (wt_mv base) hG hB hl.1 (mp_invS (av := [.int (nI a0)]) x mn_sg_needShop mc_sg_needShop (Or.inl ww_425) ww_426 ww_54 rfl dd_sg_ask_1) (kk_G_shop_ok hfl (in_ok (by omega) (by decide))) (Nat.le_trans (Nat.le_of_ble_eq_true rfl) hfr) (Nat.le_trans (Nat.le_of_ble_eq_true rfl) hlo) (Nat.le_trans (Nat.le_of_ble_eq_true rfl) hce) (Nat.le_trans (Nat.le_of_ble_eq_true rfl) hsl) hH hS (fun v σa t0 H locs hp225 ht0 hvm hzz hH hS => ?_) (fun _ _ _ _ _ hz _ _ _ _ _ => by cases hz.1)
  obtain ⟨ho, hσ⟩ := hp225
  cases ho
  rw [hσ] at hH
  refine W.eq (g2 := F0 m 4 ls []) rfl ?_
  refine lv_iload_n x.1 x.2.1 dd_sg_ask_4 rfl (lv_at hl 2 rfl) ?_
  refine mp_call x (wt_mv base) hG hB hl.1 (mp_invS (av := [.int (nI b0)]) x mn_sg_needPrescription mc_sg_needPrescription (Or.inl ww_309) ww_310 ww_54 rfl dd_sg_ask_5) (kk_G_pres_ok hfl (in_ok (by omega) (by decide))) (Nat.le_trans (Nat.le_of_ble_eq_true rfl) hfr) (Nat.le_trans (Nat.le_of_ble_eq_true rfl) hlo) (Nat.le_trans (Nat.le_of_ble_eq_true rfl) hce) (Nat.le_trans (Nat.le_of_ble_eq_true rfl) hsl) hH hS (fun v σa t0 H locs hp226 ht0 hvm hzz hH hS => ?_) (fun _ _ _ _ _ hz _ _ _ _ _ => by cases hz.1)
  obtain ⟨ho, hσ⟩ := hp226
  cases ho
  rw [hσ] at hH
  refine W.eq (g2 := F0 m 8 ls []) rfl ?_
  refine lv_iload_n x.1 x.2.1 dd_sg_ask_8 rfl (lv_at hl 3 rfl) ?_
  refine lv_iconst (v := nI 0) x.1 x.2.1 dd_sg_ask_9 (by decide +kernel) ?_
  refine lv_ldc (v := 100000) x.1 x.2.1 x.2.2.2.1 (x.2.2.2.2.1 _ ww_429) dd_sg_ask_10 ?_
  refine mn_top (w := nI 100000) (by decide +kernel) ?_
  refine mp_call x (wt_mv base) hG hB hl.1 (mp_invS (av := [.int (nI q0), .int (nI 0), .int (nI 100000)]) x mn_sg_needWithin mc_sg_needWithin (Or.inl ww_379) ww_380 ww_54 rfl dd_sg_ask_12) (kk_G_within_ok hfl (wi_ok (by omega) (by omega) (by decide))) (Nat.le_trans (Nat.le_of_ble_eq_true rfl) hfr) (Nat.le_trans (Nat.le_of_ble_eq_true rfl) hlo) (Nat.le_trans (Nat.le_of_ble_eq_true rfl) hce) (Nat.le_trans (Nat.le_of_ble_eq_true rfl) hsl) hH hS (fun v σa t0 H locs hp227 ht0 hvm hzz hH hS => ?_) (fun _ _ _ _ _ hz _ _ _ _ _ => by cases hz.1)
  obtain ⟨ho, hσ⟩ := hp227
  cases ho
  rw [hσ] at hH
  refine W.eq (g2 := F0 m 15 ls []) rfl ?_
  refine lv_aload_n x.1 x.2.1 dd_sg_ask_15 rfl (lv_at hl 0 rfl) ?_
  refine mp_get x hH (la0 hL) fg_sg_11 rfl dd_sg_ask_16 ?_
  refine lv_iload_n x.1 x.2.1 dd_sg_ask_19 rfl (lv_at hl 2 rfl) ?_
  refine kps_ld x hH hL (j := b0) (by omega) hg dd_sg_ask_20 ?_
  refine lv_astore (lv' := [(4, .ref (ad 7 b0)), (0, .ref (ad 0 0)), (1, .int (nI a0)), (2, .int (nI b0)), (3, .int (nI q0))]) x.1 x.2.1 dd_sg_ask_21 hl (by decide) rfl (fun ls hl => ?_)
  refine lv_aload x.1 x.2.1 dd_sg_ask_23 (lv_at hl 0 rfl) ?_
  refine lv_ifnonnull (tgt := 38) x.1 x.2.1 dd_sg_ask_25 (by decide) ?_
  refine lv_aload_n x.1 x.2.1 dd_sg_ask_38 rfl (lv_at hl 1 rfl) ?_
  refine lv_iload_n x.1 x.2.1 dd_sg_ask_39 rfl (lv_at hl 2 rfl) ?_
  refine mp_call x (wt_mv base) hG hB hl.1 (mp_invV (av := [.int (nI a0)]) x hH (la0 hL) rfl rfl mn_sg_needUp mc_sg_needUp (Or.inl ww_431) ww_433 ww_3 rfl dd_sg_ask_40) (kk_G_up_ok hL hfl hup) (Nat.le_trans (Nat.le_of_ble_eq_true rfl) hfr) (Nat.le_trans (Nat.le_of_ble_eq_true rfl) hlo) (Nat.le_trans (Nat.le_of_ble_eq_true rfl) hce) (Nat.le_trans (Nat.le_of_ble_eq_true rfl) hsl) hH hS (fun v σa t0 H locs hp228 ht0 hvm hzz hH hS => ?_) (fun _ _ _ _ _ hz _ _ _ _ _ => by cases hz.1)
  obtain ⟨ho, hσ⟩ := hp228
  cases ho
  rw [hσ] at hH
  refine W.eq (g2 := F0 m 43 ls []) rfl ?_
  refine lv_aload x.1 x.2.1 dd_sg_ask_43 (lv_at hl 0 rfl) ?_
  refine mp_get x hH (la7 hL ⟨by omega, hg⟩) fg_sg_62 rfl dd_sg_ask_45 ?_
  refine lv_iload_n x.1 x.2.1 dd_sg_ask_48 rfl (lv_at hl 2 rfl) ?_
  refine kds_ld x hH hL (j := a0) ⟨by omega, hg⟩ (by omega) dd_sg_ask_49 ?_
  refine lv_astore (lv' := [(5, .ref (ad 9 (20 * a0 + b0))), (4, .ref (ad 7 b0)), (0, .ref (ad 0 0)), (1, .int (nI a0)), (2, .int (nI b0)), (3, .int (nI q0))]) x.1 x.2.1 dd_sg_ask_50 hl (by decide) rfl (fun ls hl => ?_)
  refine lv_aload x.1 x.2.1 dd_sg_ask_52 (lv_at hl 1 rfl) ?_
  refine lv_aload x.1 x.2.1 dd_sg_ask_54 (lv_at hl 0 rfl) ?_
  refine lv_iload_n x.1 x.2.1 dd_sg_ask_56 rfl (lv_at hl 5 rfl) ?_
  refine mp_call x (wt_mv base) hG hB hl.1 (mp_invV (av := [.ref (ad 9 (20 * a0 + b0)), .int (nI q0)]) x hH (la7 hL ⟨by omega, hg⟩) rfl rfl mn_ps_letsAsk mc_ps_letsAsk (Or.inr ⟨_, ww_440⟩) ww_442 ww_5 rfl dd_sg_ask_57) (kk_P_letsAsk (nc := nc) hL ⟨by omega, hg⟩ hd (hc) (by omega)) (Nat.le_trans (Nat.le_of_ble_eq_true rfl) hfr) (Nat.le_trans (Nat.le_of_ble_eq_true rfl) hlo) (Nat.le_trans (Nat.le_of_ble_eq_true rfl) hce) (Nat.le_trans (Nat.le_of_ble_eq_true rfl) hsl) hH hS (fun v σa t0 H locs hp229 ht0 hvm hzz hH hS => ?_) (fun _ _ _ _ _ hz _ _ _ _ _ => by cases hz.1)
  obtain ⟨ho, hσ⟩ := hp229
  cases ho
  rw [hσ] at hH
  refine W.eq (g2 := F0 m 60 ls [.int (lak V b0 (20 * a0 + b0) nc (nI q0))]) rfl ?_
  refine mn_top (w := nI 0) hla ?_
  refine lv_if_ne (tgt := 73) x.1 x.2.1 dd_sg_ask_60 (by decide) (fun c230 => absurd (by decide +kernel) c230) (fun c230 => ?_)
  exact kx_throw x hG hB hl.1 hfl hlk hex (cls := mp_ise) (tx := "all supplies are decided, or the day is too near the last one") (by decide +kernel) ww_383 ww_384 ww_65 mp_own_ise rfl (by decide +kernel) dd_sg_ask_63 dd_sg_ask_66 dd_sg_ask_67 dd_sg_ask_69 dd_sg_ask_72 (Nat.le_trans (Nat.le_of_ble_eq_true rfl) hfr) (Nat.le_trans (Nat.le_of_ble_eq_true rfl) hlo) (Nat.le_trans (Nat.le_of_ble_eq_true rfl) hce) (Nat.le_trans (Nat.le_of_ble_eq_true rfl) hsl) (by decide) (by decide) hH hS (fun t a hT => ⟨a, rfl, hT, rfl⟩)
set_option maxRecDepth 100000 in
set_option maxHeartbeats 4000000 in
theorem kk_X_retry_0 {l : Launch} {D : va_G} {ar : Nat → ClassId} {base : Nat} {σ : mp_M} {ad : Nat → Nat → Nat} {rg : Nat → Bool} {pl : Nat → Nat} {V M : fV} {f n a0 b0 d nc g pr rf sp nx : Nat} (hL : Lay ar ad rg pl V M σ) (hfl : l.flags = flags0) (hrw : RW pl V f n) (ha : a0 < 25) (hb : b0 < 20) (hdx : dx rg a0 b0 = d) (hup : upb V (nI a0) = true) (hrn : ¬ V 39 d = 0) (hc : V 34 d = nI nc) (hc2 : nc ≤ 12) (h1 : V 33 d = nI g) (h2 : V 30 d = nI pr) (h3 : V 41 d = nI rf) (h4 : V 63 d = nI sp) (hg : g < 2 ^ 30) (hp : pr < 2 ^ 30) (hr9 : rf < 2 ^ 30) (hsp : sp < 25) (hnx : nxt (mx g (mx pr rf)) sp = nx) : CN l D ar base yy_sg_retry prog_1_method_4_code 4 (Option.some Jvm.ClassFile.FieldType.int) [] 7 94 6 36 [.ref (ad 0 0), .int (nI a0), .int (nI b0)] σ (fun o σ' _ => o = .returned (some (.int (if nx = 0 then nI 0 else nI 25))) ∧ Lay ar ad rg pl (ssr pl f n nc V d nx) M σ') := by
  refine mp_in (Nat.le_of_ble_eq_true rfl) ?_
  intro p e R s m below meth c x hfr hlo hce hsl hr hlk hin hex hG hB ls H hH0 hH hS hl
  have hl : lv_has ls 4 [(0, .ref (ad 0 0)), (1, .int (nI a0)), (2, .int (nI b0))] := hl
  obtain ⟨hf, hf2, hn, hn2, hpl⟩ := id hrw
  have hd : dk rg d := hdx ▸ dx_dk ha hb
  have hd5 := dk_le hd
  refine lv_iload_n x.1 x.2.1 dd_sg_retry_0 rfl (lv_at hl 1 rfl) ?_
  refine mp_call x (wt_mv base) hG hB hl.1 (mp_invS (av := [.int (nI a0)]) x mn_sg_needShop mc_sg_needShop (Or.inl ww_425) ww_426 ww_54 rfl dd_sg_retry_1) (kk_G_shop_ok hfl (in_ok (by omega) (by decide))) (Nat.le_trans (Nat.le_of_ble_eq_true rfl) hfr) (Nat.le_trans (Nat.le_of_ble_eq_true rfl) hlo) (Nat.le_trans (Nat.le_of_ble_eq_true rfl) hce) (Nat.le_trans (Nat.le_of_ble_eq_true rfl) hsl) hH hS (fun v σa t0 H locs hp231 ht0 hvm hzz hH hS => ?_) (fun _ _ _ _ _ hz _ _ _ _ _ => by cases hz.1)
  obtain ⟨ho, hσ⟩ := hp231
  cases ho
  rw [hσ] at hH
  refine W.eq (g2 := F0 m 4 ls []) rfl ?_
  refine lv_iload_n x.1 x.2.1 dd_sg_retry_4 rfl (lv_at hl 2 rfl) ?_
  refine mp_call x (wt_mv base) hG hB hl.1 (mp_invS (av := [.int (nI b0)]) x mn_sg_needPrescription mc_sg_needPrescription (Or.inl ww_309) ww_310 ww_54 rfl dd_sg_retry_5) (kk_G_pres_ok hfl (in_ok (by omega) (by decide))) (Nat.le_trans (Nat.le_of_ble_eq_true rfl) hfr) (Nat.le_trans (Nat.le_of_ble_eq_true rfl) hlo) (Nat.le_trans (Nat.le_of_ble_eq_true rfl) hce) (Nat.le_trans (Nat.le_of_ble_eq_true rfl) hsl) hH hS (fun v σa t0 H locs hp232 ht0 hvm hzz hH hS => ?_) (fun _ _ _ _ _ hz _ _ _ _ _ => by cases hz.1)
  obtain ⟨ho, hσ⟩ := hp232
  cases ho
  rw [hσ] at hH
  refine W.eq (g2 := F0 m 8 ls []) rfl ?_
  refine lv_aload_n x.1 x.2.1 dd_sg_retry_8 rfl (lv_at hl 0 rfl) ?_
  refine lv_iload_n x.1 x.2.1 dd_sg_retry_9 rfl (lv_at hl 1 rfl) ?_
  refine mp_call x (wt_mv base) hG hB hl.1 (mp_invV (av := [.int (nI a0)]) x hH (la0 hL) rfl rfl mn_sg_needUp mc_sg_needUp (Or.inl ww_431) ww_433 ww_3 rfl dd_sg_retry_10) (kk_G_up_ok hL hfl hup) (Nat.le_trans (Nat.le_of_ble_eq_true rfl) hfr) (Nat.le_trans (Nat.le_of_ble_eq_true rfl) hlo) (Nat.le_trans (Nat.le_of_ble_eq_true rfl) hce) (Nat.le_trans (Nat.le_of_ble_eq_true rfl) hsl) hH hS (fun v σa t0 H locs hp233 ht0 hvm hzz hH hS => ?_) (fun _ _ _ _ _ hz _ _ _ _ _ => by cases hz.1)
  obtain ⟨ho, hσ⟩ := hp233
  cases ho
  rw [hσ] at hH
  refine W.eq (g2 := F0 m 13 ls []) rfl ?_
  refine lv_aload_n x.1 x.2.1 dd_sg_retry_13 rfl (lv_at hl 0 rfl) ?_
  refine lv_iload_n x.1 x.2.1 dd_sg_retry_14 rfl (lv_at hl 1 rfl) ?_
  refine lv_iload_n x.1 x.2.1 dd_sg_retry_15 rfl (lv_at hl 2 rfl) ?_
  refine mp_call x (wt_mv base) hG hB hl.1 (mp_invV (av := [.int (nI a0), .int (nI b0)]) x hH (la0 hL) rfl rfl mn_sg_deskOf mc_sg_deskOf (Or.inl ww_517) ww_519 ww_19 rfl dd_sg_retry_16) (kk_G_deskOf (a0 := a0) (b0 := b0) hL (by omega) (by omega) hdx) (Nat.le_trans (Nat.le_of_ble_eq_true rfl) hfr) (Nat.le_trans (Nat.le_of_ble_eq_true rfl) hlo) (Nat.le_trans (Nat.le_of_ble_eq_true rfl) hce) (Nat.le_trans (Nat.le_of_ble_eq_true rfl) hsl) hH hS (fun v σa t0 H locs hp234 ht0 hvm hzz hH hS => ?_) (fun _ _ _ _ _ hz _ _ _ _ _ => by cases hz.1)
  obtain ⟨ho, hσ⟩ := hp234
  cases ho
  rw [hσ] at hH
  refine W.eq (g2 := F0 m 19 ls [.ref (ad 9 d)]) rfl ?_
  refine lv_astore_n (lv' := [(3, .ref (ad 9 d)), (0, .ref (ad 0 0)), (1, .int (nI a0)), (2, .int (nI b0))]) x.1 x.2.1 dd_sg_retry_19 rfl hl (by decide) rfl (fun ls hl => ?_)
  refine lv_aload_n x.1 x.2.1 dd_sg_retry_20 rfl (lv_at hl 0 rfl) ?_
  refine mp_get x hH (la9 hL hd) fg_sg_72 rfl dd_sg_retry_21 ?_
  refine mp_call x (wt_mv base) hG hB hl.1 (mp_invV (av := []) x hH (la12 hL hd) rfl rfl mn_ak_runs mc_ak_runs (Or.inr ⟨_, ww_521⟩) ww_523 ww_20 rfl dd_sg_retry_24) (kk_A_runs hL hd) (Nat.le_trans (Nat.le_of_ble_eq_true rfl) hfr) (Nat.le_trans (Nat.le_of_ble_eq_true rfl) hlo) (Nat.le_trans (Nat.le_of_ble_eq_true rfl) hce) (Nat.le_trans (Nat.le_of_ble_eq_true rfl) hsl) hH hS (fun v σa t0 H locs hp235 ht0 hvm hzz hH hS => ?_) (fun _ _ _ _ _ hz _ _ _ _ _ => by cases hz.1)
  obtain ⟨ho, hσ⟩ := hp235
  cases ho
  rw [hσ] at hH
  refine W.eq (g2 := F0 m 27 ls [.int (if V 39 d = 0 then nI 0 else nI 1)]) rfl ?_
  refine mn_top (w := nI 1) (if_neg hrn) ?_
  refine lv_if_ne (tgt := 40) x.1 x.2.1 dd_sg_retry_27 (by decide) (fun c236 => ?_) (fun c236 => absurd c236 (by decide +kernel))
  refine lv_aload_n x.1 x.2.1 dd_sg_retry_40 rfl (lv_at hl 1 rfl) ?_
  refine lv_aload_n x.1 x.2.1 dd_sg_retry_41 rfl (lv_at hl 0 rfl) ?_
  refine mp_call x (wt_mv base) hG hB hl.1 (mp_invV (av := [.ref (ad 9 d)]) x hH (la0 hL) rfl rfl mn_sg_startRound mc_sg_startRound (Or.inl ww_467) ww_469 ww_10 rfl dd_sg_retry_42) (kk_G_startRound (nc := nc) (g := g) (pr := pr) (rf := rf) (sp := sp) hL ⟨hf, by omega, hn, by omega, hpl⟩ hd (hc) (by omega) h1 h2 h3 h4 (by omega) (by omega) (by omega) (by omega) hnx) (Nat.le_trans (Nat.le_of_ble_eq_true rfl) hfr) (Nat.le_trans (Nat.le_of_ble_eq_true rfl) hlo) (Nat.le_trans (Nat.le_of_ble_eq_true rfl) hce) (Nat.le_trans (Nat.le_of_ble_eq_true rfl) hsl) hH hS (fun v σa t0 H locs hp237 ht0 hvm hzz hH hS => ?_) (fun _ _ _ _ _ hz _ _ _ _ _ => by cases hz.1)
  obtain ⟨ho, hL⟩ := hp237
  cases ho
  refine W.eq (g2 := F0 m 45 ls [.int (if nx = 0 then nI 0 else nI 25)]) rfl ?_
  exact mp_ri x hr hlk (by decide) (by decide) hH hS (fun _ => ⟨rfl, hL⟩) dd_sg_retry_45
set_option maxRecDepth 100000 in
set_option maxHeartbeats 4000000 in
theorem kk_X_retry_2a {l : Launch} {D : va_G} {ar : Nat → ClassId} {base : Nat} {σ : mp_M} {ad : Nat → Nat → Nat} {rg : Nat → Bool} {pl : Nat → Nat} {V M : fV} {a0 b0 : Nat} (hL : Lay ar ad rg pl V M σ) (hfl : l.flags = flags0) (ha : a0 < 25) (hb : b0 < 20) (hup : upb V (nI a0) = false) : CN l D ar base yy_sg_retry prog_1_method_4_code 4 (Option.some Jvm.ClassFile.FieldType.int) [] 7 95 6 36 [.ref (ad 0 0), .int (nI a0), .int (nI b0)] σ (fun o σ' t => ∃ a, o = .threw a ∧ mp_T mp_ise a t ∧ σ' = σ) := by
  refine mp_in (Nat.le_of_ble_eq_true rfl) ?_
  intro p e R s m below meth c x hfr hlo hce hsl hr hlk hin hex hG hB ls H hH0 hH hS hl
  have hl : lv_has ls 4 [(0, .ref (ad 0 0)), (1, .int (nI a0)), (2, .int (nI b0))] := hl
  refine lv_iload_n x.1 x.2.1 dd_sg_retry_0 rfl (lv_at hl 1 rfl) ?_
  refine mp_call x (wt_mv base) hG hB hl.1 (mp_invS (av := [.int (nI a0)]) x mn_sg_needShop mc_sg_needShop (Or.inl ww_425) ww_426 ww_54 rfl dd_sg_retry_1) (kk_G_shop_ok hfl (in_ok (by omega) (by decide))) (Nat.le_trans (Nat.le_of_ble_eq_true rfl) hfr) (Nat.le_trans (Nat.le_of_ble_eq_true rfl) hlo) (Nat.le_trans (Nat.le_of_ble_eq_true rfl) hce) (Nat.le_trans (Nat.le_of_ble_eq_true rfl) hsl) hH hS (fun v σa t0 H locs hp238 ht0 hvm hzz hH hS => ?_) (fun _ _ _ _ _ hz _ _ _ _ _ => by cases hz.1)
  obtain ⟨ho, hσ⟩ := hp238
  cases ho
  rw [hσ] at hH
  refine W.eq (g2 := F0 m 4 ls []) rfl ?_
  refine lv_iload_n x.1 x.2.1 dd_sg_retry_4 rfl (lv_at hl 2 rfl) ?_
  refine mp_call x (wt_mv base) hG hB hl.1 (mp_invS (av := [.int (nI b0)]) x mn_sg_needPrescription mc_sg_needPrescription (Or.inl ww_309) ww_310 ww_54 rfl dd_sg_retry_5) (kk_G_pres_ok hfl (in_ok (by omega) (by decide))) (Nat.le_trans (Nat.le_of_ble_eq_true rfl) hfr) (Nat.le_trans (Nat.le_of_ble_eq_true rfl) hlo) (Nat.le_trans (Nat.le_of_ble_eq_true rfl) hce) (Nat.le_trans (Nat.le_of_ble_eq_true rfl) hsl) hH hS (fun v σa t0 H locs hp239 ht0 hvm hzz hH hS => ?_) (fun _ _ _ _ _ hz _ _ _ _ _ => by cases hz.1)
  obtain ⟨ho, hσ⟩ := hp239
  cases ho
  rw [hσ] at hH
  refine W.eq (g2 := F0 m 8 ls []) rfl ?_
  refine lv_aload_n x.1 x.2.1 dd_sg_retry_8 rfl (lv_at hl 0 rfl) ?_
  refine lv_iload_n x.1 x.2.1 dd_sg_retry_9 rfl (lv_at hl 1 rfl) ?_
  refine mp_call x (wt_mv base) hG hB hl.1 (mp_invV (av := [.int (nI a0)]) x hH (la0 hL) rfl rfl mn_sg_needUp mc_sg_needUp (Or.inl ww_431) ww_433 ww_3 rfl dd_sg_retry_10) (kk_G_up_no hL hfl hup) (Nat.le_trans (Nat.le_of_ble_eq_true rfl) hfr) (Nat.le_trans (Nat.le_of_ble_eq_true rfl) hlo) (Nat.le_trans (Nat.le_of_ble_eq_true rfl) hce) (Nat.le_trans (Nat.le_of_ble_eq_true rfl) hsl) hH hS (fun v σa t0 H locs hp240 ht0 hvm hzz hH hS => by obtain ⟨a, ho, -⟩ := hp240; cases ho) (fun a σa t0 H locs hp240 ht0 hvm hzz hH hS => ?_)
  obtain ⟨a, ho, hT, hσ⟩ := hp240
  cases ho
  rw [hσ] at hH
  exact mp_ro hlk hex (by decide) (by decide) hH hS hT ht0 hvm (fun t hT => ⟨a, rfl, hT, rfl⟩)
set_option maxRecDepth 100000 in
set_option maxHeartbeats 4000000 in
theorem kk_X_retry_2b {l : Launch} {D : va_G} {ar : Nat → ClassId} {base : Nat} {σ : mp_M} {ad : Nat → Nat → Nat} {rg : Nat → Bool} {pl : Nat → Nat} {V M : fV} {a0 b0 d : Nat} (hL : Lay ar ad rg pl V M σ) (hfl : l.flags = flags0) (ha : a0 < 25) (hb : b0 < 20) (hdx : dx rg a0 b0 = d) (hup : upb V (nI a0) = true) (hrn : V 39 d = 0) : CN l D ar base yy_sg_retry prog_1_method_4_code 4 (Option.some Jvm.ClassFile.FieldType.int) [] 7 94 6 36 [.ref (ad 0 0), .int (nI a0), .int (nI b0)] σ (fun o σ' t => ∃ a, o = .threw a ∧ mp_T mp_ise a t ∧ σ' = σ) := by
  refine mp_in (Nat.le_of_ble_eq_true rfl) ?_
  intro p e R s m below meth c x hfr hlo hce hsl hr hlk hin hex hG hB ls H hH0 hH hS hl
  have hl : lv_has ls 4 [(0, .ref (ad 0 0)), (1, .int (nI a0)), (2, .int (nI b0))] := hl
  have hd : dk rg d := hdx ▸ dx_dk ha hb
  have hd5 := dk_le hd
  refine lv_iload_n x.1 x.2.1 dd_sg_retry_0 rfl (lv_at hl 1 rfl) ?_
  refine mp_call x (wt_mv base) hG hB hl.1 (mp_invS (av := [.int (nI a0)]) x mn_sg_needShop mc_sg_needShop (Or.inl ww_425) ww_426 ww_54 rfl dd_sg_retry_1) (kk_G_shop_ok hfl (in_ok (by omega) (by decide))) (Nat.le_trans (Nat.le_of_ble_eq_true rfl) hfr) (Nat.le_trans (Nat.le_of_ble_eq_true rfl) hlo) (Nat.le_trans (Nat.le_of_ble_eq_true rfl) hce) (Nat.le_trans (Nat.le_of_ble_eq_true rfl) hsl) hH hS (fun v σa t0 H locs hp241 ht0 hvm hzz hH hS => ?_) (fun _ _ _ _ _ hz _ _ _ _ _ => by cases hz.1)
  obtain ⟨ho, hσ⟩ := hp241
  cases ho
  rw [hσ] at hH
  refine W.eq (g2 := F0 m 4 ls []) rfl ?_
  refine lv_iload_n x.1 x.2.1 dd_sg_retry_4 rfl (lv_at hl 2 rfl) ?_
  refine mp_call x (wt_mv base) hG hB hl.1 (mp_invS (av := [.int (nI b0)]) x mn_sg_needPrescription mc_sg_needPrescription (Or.inl ww_309) ww_310 ww_54 rfl dd_sg_retry_5) (kk_G_pres_ok hfl (in_ok (by omega) (by decide))) (Nat.le_trans (Nat.le_of_ble_eq_true rfl) hfr) (Nat.le_trans (Nat.le_of_ble_eq_true rfl) hlo) (Nat.le_trans (Nat.le_of_ble_eq_true rfl) hce) (Nat.le_trans (Nat.le_of_ble_eq_true rfl) hsl) hH hS (fun v σa t0 H locs hp242 ht0 hvm hzz hH hS => ?_) (fun _ _ _ _ _ hz _ _ _ _ _ => by cases hz.1)
  obtain ⟨ho, hσ⟩ := hp242
  cases ho
  rw [hσ] at hH
  refine W.eq (g2 := F0 m 8 ls []) rfl ?_
  refine lv_aload_n x.1 x.2.1 dd_sg_retry_8 rfl (lv_at hl 0 rfl) ?_
  refine lv_iload_n x.1 x.2.1 dd_sg_retry_9 rfl (lv_at hl 1 rfl) ?_
  refine mp_call x (wt_mv base) hG hB hl.1 (mp_invV (av := [.int (nI a0)]) x hH (la0 hL) rfl rfl mn_sg_needUp mc_sg_needUp (Or.inl ww_431) ww_433 ww_3 rfl dd_sg_retry_10) (kk_G_up_ok hL hfl hup) (Nat.le_trans (Nat.le_of_ble_eq_true rfl) hfr) (Nat.le_trans (Nat.le_of_ble_eq_true rfl) hlo) (Nat.le_trans (Nat.le_of_ble_eq_true rfl) hce) (Nat.le_trans (Nat.le_of_ble_eq_true rfl) hsl) hH hS (fun v σa t0 H locs hp243 ht0 hvm hzz hH hS => ?_) (fun _ _ _ _ _ hz _ _ _ _ _ => by cases hz.1)
  obtain ⟨ho, hσ⟩ := hp243
  cases ho
  rw [hσ] at hH
  refine W.eq (g2 := F0 m 13 ls []) rfl ?_
  refine lv_aload_n x.1 x.2.1 dd_sg_retry_13 rfl (lv_at hl 0 rfl) ?_
  refine lv_iload_n x.1 x.2.1 dd_sg_retry_14 rfl (lv_at hl 1 rfl) ?_
  refine lv_iload_n x.1 x.2.1 dd_sg_retry_15 rfl (lv_at hl 2 rfl) ?_
  refine mp_call x (wt_mv base) hG hB hl.1 (mp_invV (av := [.int (nI a0), .int (nI b0)]) x hH (la0 hL) rfl rfl mn_sg_deskOf mc_sg_deskOf (Or.inl ww_517) ww_519 ww_19 rfl dd_sg_retry_16) (kk_G_deskOf (a0 := a0) (b0 := b0) hL (by omega) (by omega) hdx) (Nat.le_trans (Nat.le_of_ble_eq_true rfl) hfr) (Nat.le_trans (Nat.le_of_ble_eq_true rfl) hlo) (Nat.le_trans (Nat.le_of_ble_eq_true rfl) hce) (Nat.le_trans (Nat.le_of_ble_eq_true rfl) hsl) hH hS (fun v σa t0 H locs hp244 ht0 hvm hzz hH hS => ?_) (fun _ _ _ _ _ hz _ _ _ _ _ => by cases hz.1)
  obtain ⟨ho, hσ⟩ := hp244
  cases ho
  rw [hσ] at hH
  refine W.eq (g2 := F0 m 19 ls [.ref (ad 9 d)]) rfl ?_
  refine lv_astore_n (lv' := [(3, .ref (ad 9 d)), (0, .ref (ad 0 0)), (1, .int (nI a0)), (2, .int (nI b0))]) x.1 x.2.1 dd_sg_retry_19 rfl hl (by decide) rfl (fun ls hl => ?_)
  refine lv_aload_n x.1 x.2.1 dd_sg_retry_20 rfl (lv_at hl 0 rfl) ?_
  refine mp_get x hH (la9 hL hd) fg_sg_72 rfl dd_sg_retry_21 ?_
  refine mp_call x (wt_mv base) hG hB hl.1 (mp_invV (av := []) x hH (la12 hL hd) rfl rfl mn_ak_runs mc_ak_runs (Or.inr ⟨_, ww_521⟩) ww_523 ww_20 rfl dd_sg_retry_24) (kk_A_runs hL hd) (Nat.le_trans (Nat.le_of_ble_eq_true rfl) hfr) (Nat.le_trans (Nat.le_of_ble_eq_true rfl) hlo) (Nat.le_trans (Nat.le_of_ble_eq_true rfl) hce) (Nat.le_trans (Nat.le_of_ble_eq_true rfl) hsl) hH hS (fun v σa t0 H locs hp245 ht0 hvm hzz hH hS => ?_) (fun _ _ _ _ _ hz _ _ _ _ _ => by cases hz.1)
  obtain ⟨ho, hσ⟩ := hp245
  cases ho
  rw [hσ] at hH
  refine W.eq (g2 := F0 m 27 ls [.int (if V 39 d = 0 then nI 0 else nI 1)]) rfl ?_
  refine mn_top (w := nI 0) (if_pos hrn) ?_
  refine lv_if_ne (tgt := 40) x.1 x.2.1 dd_sg_retry_27 (by decide) (fun c246 => absurd (by decide +kernel) c246) (fun c246 => ?_)
  exact kx_throw x hG hB hl.1 hfl hlk hex (cls := mp_ise) (tx := "the shop does not ask") (by decide +kernel) ww_383 ww_384 ww_65 mp_own_ise rfl (by decide +kernel) dd_sg_retry_30 dd_sg_retry_33 dd_sg_retry_34 dd_sg_retry_36 dd_sg_retry_39 (Nat.le_trans (Nat.le_of_ble_eq_true rfl) hfr) (Nat.le_trans (Nat.le_of_ble_eq_true rfl) hlo) (Nat.le_trans (Nat.le_of_ble_eq_true rfl) hce) (Nat.le_trans (Nat.le_of_ble_eq_true rfl) hsl) (by decide) (by decide) hH hS (fun t a hT => ⟨a, rfl, hT, rfl⟩)
set_option maxRecDepth 100000 in
set_option maxHeartbeats 4000000 in
theorem kk_X_deliver_0 {l : Launch} {D : va_G} {ar : Nat → ClassId} {base : Nat} {σ : mp_M} {ad : Nat → Nat → Nat} {rg : Nat → Bool} {pl : Nat → Nat} {V M : fV} {f n i a0 b0 d t nc n2 kd : Nat} (hL : Lay ar ad rg pl V M σ) (hfl : l.flags = flags0) (hrw : RW pl V f n) (hi : i < n) (hte : pl ((f + i) % 100 + 1) = t) (ha : a0 < 25) (hb : b0 < 20) (hdx : dx rg a0 b0 = d) (ht : t < 101) (hto : V 46 t = nI a0) (hpr : V 47 t = nI b0) (hkd : V 44 t = nI kd) (hkl : kd < 7) (hc : V 34 d = nI nc) (hc2 : nc ≤ 12) (hc3 : V 52 t = nI n2) (hc4 : n2 ≤ 12) (h12 : ¬ V 39 d = 0 → nc < 12) : CN l D ar base yy_sg_deliver prog_1_method_5_code 2 (Option.some Jvm.ClassFile.FieldType.int) [] 7 95 6 36 [.ref (ad 0 0), .int (nI i)] σ (fun o σ' _ => o = .returned (some (.int (shoR nc n2 (mu (mu V 54 0 (nI ((f + 1) % 100))) 55 0 (nI (n - 1))) d t kd a0))) ∧ Lay ar ad rg (tkp pl f i) (shoV (tkp pl f i) ((f + 1) % 100) (n - 1) nc n2 (mu (mu V 54 0 (nI ((f + 1) % 100))) 55 0 (nI (n - 1))) d t kd a0) M σ') := by
  refine mp_in (Nat.le_of_ble_eq_true rfl) ?_
  intro p e R s m below meth c x hfr hlo hce hsl hr hlk hin hex hG hB ls H hH0 hH hS hl
  have hl : lv_has ls 2 [(0, .ref (ad 0 0)), (1, .int (nI i))] := hl
  obtain ⟨hf, hf2, hn, hn2, hpl⟩ := id hrw
  refine lv_aload_n x.1 x.2.1 dd_sg_deliver_0 rfl (lv_at hl 0 rfl) ?_
  refine lv_iload_n x.1 x.2.1 dd_sg_deliver_1 rfl (lv_at hl 1 rfl) ?_
  refine mp_call x (wt_mv base) hG hB hl.1 (mp_invV (av := [.int (nI i)]) x hH (la0 hL) rfl rfl mn_sg_needLetter mc_sg_needLetter (Or.inl ww_533) ww_535 ww_21 rfl dd_sg_deliver_2) (kk_G_letter_ok hL (hn) hfl (in_ok (by omega) (by omega))) (Nat.le_trans (Nat.le_of_ble_eq_true rfl) hfr) (Nat.le_trans (Nat.le_of_ble_eq_true rfl) hlo) (Nat.le_trans (Nat.le_of_ble_eq_true rfl) hce) (Nat.le_trans (Nat.le_of_ble_eq_true rfl) hsl) hH hS (fun v σa t0 H locs hp247 ht0 hvm hzz hH hS => ?_) (fun _ _ _ _ _ hz _ _ _ _ _ => by cases hz.1)
  obtain ⟨ho, hσ⟩ := hp247
  cases ho
  rw [hσ] at hH
  refine W.eq (g2 := F0 m 5 ls []) rfl ?_
  refine lv_aload_n x.1 x.2.1 dd_sg_deliver_5 rfl (lv_at hl 0 rfl) ?_
  refine lv_aload_n x.1 x.2.1 dd_sg_deliver_6 rfl (lv_at hl 0 rfl) ?_
  refine mp_get x hH (la0 hL) fg_sg_27 rfl dd_sg_deliver_7 ?_
  refine lv_iload_n x.1 x.2.1 dd_sg_deliver_10 rfl (lv_at hl 1 rfl) ?_
  refine mp_call x (wt_mv base) hG hB hl.1 (mp_invV (av := [.int (nI i)]) x hH (la2 hL) rfl rfl mn_lr_take mc_lr_take (Or.inr ⟨_, ww_538⟩) ww_540 ww_22 rfl dd_sg_deliver_11) (kk_R_take hL ⟨hf, by omega, hn, by omega, hpl⟩ (by omega)) (Nat.le_trans (Nat.le_of_ble_eq_true rfl) hfr) (Nat.le_trans (Nat.le_of_ble_eq_true rfl) hlo) (Nat.le_trans (Nat.le_of_ble_eq_true rfl) hce) (Nat.le_trans (Nat.le_of_ble_eq_true rfl) hsl) hH hS (fun v σa t0 H locs hp248 ht0 hvm hzz hH hS => ?_) (fun _ _ _ _ _ hz _ _ _ _ _ => by cases hz.1)
  obtain ⟨ho, hL⟩ := hp248
  cases ho
  refine W.eq (g2 := F0 m 14 ls [.ref (ad 4 (pl ((f + i) % 100 + 1))), .ref (ad 0 0)]) rfl ?_
  have hpl := tkp_lt (f := f) (i := i) hpl
  rw [hte]
  refine mp_call x (wt_mv base) hG hB hl.1 (mp_invV (av := [.ref (ad 4 t)]) x hH (la0 hL) rfl rfl mn_sg_handOver mc_sg_handOver (Or.inl ww_546) ww_548 ww_24 rfl dd_sg_deliver_14) (kk_G_handOver (a0 := a0) (b0 := b0) (d := d) (t := t) (nc := nc) (n2 := n2) (kd := kd) hL ⟨(mu_k (by decide)).trans (mu_s), by omega, mu_s, by omega, hpl⟩ (by omega) (by omega) hdx ht ((mu_k (by decide)).trans ((mu_k (by decide)).trans (hto))) ((mu_k (by decide)).trans ((mu_k (by decide)).trans (hpr))) ((mu_k (by decide)).trans ((mu_k (by decide)).trans (hkd))) (by omega) ((mu_k (by decide)).trans ((mu_k (by decide)).trans (hc))) (by omega) ((mu_k (by decide)).trans ((mu_k (by decide)).trans (hc3))) (by omega) h12) (Nat.le_trans (Nat.le_of_ble_eq_true rfl) hfr) (Nat.le_trans (Nat.le_of_ble_eq_true rfl) hlo) (Nat.le_trans (Nat.le_of_ble_eq_true rfl) hce) (Nat.le_trans (Nat.le_of_ble_eq_true rfl) hsl) hH hS (fun v σa t0 H locs hp249 ht0 hvm hzz hH hS => ?_) (fun _ _ _ _ _ hz _ _ _ _ _ => by cases hz.1)
  obtain ⟨ho, hL⟩ := hp249
  cases ho
  refine W.eq (g2 := F0 m 17 ls [.int (shoR nc n2 (mu (mu V 54 0 (nI ((f + 1) % 100))) 55 0 (nI (n - 1))) d t kd a0)]) rfl ?_
  exact mp_ri x hr hlk (by decide) (by decide) hH hS (fun _ => ⟨rfl, hL⟩) dd_sg_deliver_17
set_option maxRecDepth 100000 in
set_option maxHeartbeats 4000000 in
theorem kk_X_drop_0 {l : Launch} {D : va_G} {ar : Nat → ClassId} {base : Nat} {σ : mp_M} {ad : Nat → Nat → Nat} {rg : Nat → Bool} {pl : Nat → Nat} {V M : fV} {f n i t : Nat} (hL : Lay ar ad rg pl V M σ) (hfl : l.flags = flags0) (hrw : RW pl V f n) (hi : i < n) (hte : pl ((f + i) % 100 + 1) = t) (ht : t < 101) : CN l D ar base yy_sg_drop prog_1_method_6_code 2 (Option.some Jvm.ClassFile.FieldType.int) [] 7 95 6 36 [.ref (ad 0 0), .int (nI i)] σ (fun o σ' _ => o = .returned (some (.int (V 44 t))) ∧ Lay ar ad rg (tkp pl f i) (mu (mu V 54 0 (nI ((f + 1) % 100))) 55 0 (nI (n - 1))) M σ') := by
  refine mp_in (Nat.le_of_ble_eq_true rfl) ?_
  intro p e R s m below meth c x hfr hlo hce hsl hr hlk hin hex hG hB ls H hH0 hH hS hl
  have hl : lv_has ls 2 [(0, .ref (ad 0 0)), (1, .int (nI i))] := hl
  obtain ⟨hf, hf2, hn, hn2, hpl⟩ := id hrw
  refine lv_aload_n x.1 x.2.1 dd_sg_drop_0 rfl (lv_at hl 0 rfl) ?_
  refine lv_iload_n x.1 x.2.1 dd_sg_drop_1 rfl (lv_at hl 1 rfl) ?_
  refine mp_call x (wt_mv base) hG hB hl.1 (mp_invV (av := [.int (nI i)]) x hH (la0 hL) rfl rfl mn_sg_needLetter mc_sg_needLetter (Or.inl ww_533) ww_535 ww_21 rfl dd_sg_drop_2) (kk_G_letter_ok hL (hn) hfl (in_ok (by omega) (by omega))) (Nat.le_trans (Nat.le_of_ble_eq_true rfl) hfr) (Nat.le_trans (Nat.le_of_ble_eq_true rfl) hlo) (Nat.le_trans (Nat.le_of_ble_eq_true rfl) hce) (Nat.le_trans (Nat.le_of_ble_eq_true rfl) hsl) hH hS (fun v σa t0 H locs hp250 ht0 hvm hzz hH hS => ?_) (fun _ _ _ _ _ hz _ _ _ _ _ => by cases hz.1)
  obtain ⟨ho, hσ⟩ := hp250
  cases ho
  rw [hσ] at hH
  refine W.eq (g2 := F0 m 5 ls []) rfl ?_
  refine lv_aload_n x.1 x.2.1 dd_sg_drop_5 rfl (lv_at hl 0 rfl) ?_
  refine mp_get x hH (la0 hL) fg_sg_27 rfl dd_sg_drop_6 ?_
  refine lv_iload_n x.1 x.2.1 dd_sg_drop_9 rfl (lv_at hl 1 rfl) ?_
  refine mp_call x (wt_mv base) hG hB hl.1 (mp_invV (av := [.int (nI i)]) x hH (la2 hL) rfl rfl mn_lr_take mc_lr_take (Or.inr ⟨_, ww_538⟩) ww_540 ww_22 rfl dd_sg_drop_10) (kk_R_take hL ⟨hf, by omega, hn, by omega, hpl⟩ (by omega)) (Nat.le_trans (Nat.le_of_ble_eq_true rfl) hfr) (Nat.le_trans (Nat.le_of_ble_eq_true rfl) hlo) (Nat.le_trans (Nat.le_of_ble_eq_true rfl) hce) (Nat.le_trans (Nat.le_of_ble_eq_true rfl) hsl) hH hS (fun v σa t0 H locs hp251 ht0 hvm hzz hH hS => ?_) (fun _ _ _ _ _ hz _ _ _ _ _ => by cases hz.1)
  obtain ⟨ho, hL⟩ := hp251
  cases ho
  refine W.eq (g2 := F0 m 13 ls [.ref (ad 4 (pl ((f + i) % 100 + 1)))]) rfl ?_
  have hpl := tkp_lt (f := f) (i := i) hpl
  rw [hte]
  refine mp_get x hH (la4 hL (Nat.lt_trans ht (by decide))) fg_sg_114 rfl dd_sg_drop_13 ?_
  refine mn_top (w := V 44 t) ((mu_k (by decide)).trans (mu_k (by decide))) ?_
  exact mp_ri x hr hlk (by decide) (by decide) hH hS (fun _ => ⟨rfl, hL⟩) dd_sg_drop_16
set_option maxRecDepth 100000 in
set_option maxHeartbeats 4000000 in
theorem kk_X_copy_0 {l : Launch} {D : va_G} {ar : Nat → ClassId} {base : Nat} {σ : mp_M} {ad : Nat → Nat → Nat} {rg : Nat → Bool} {pl : Nat → Nat} {V M : fV} {f n i nc : Nat} (hL : Lay ar ad rg pl V M σ) (hfl : l.flags = flags0) (hrw : RW pl V f n) (hi : i < n) (hne : n < 100 → pl ((f + i) % 100 + 1) ≠ pl ((f + n) % 100 + 1)) (hc : V 52 (pl ((f + i) % 100 + 1)) = nI nc) (hc2 : nc ≤ 12) : CN l D ar base yy_sg_copy prog_1_method_7_code 2 (Option.some Jvm.ClassFile.FieldType.boolean) [] 7 95 6 36 [.ref (ad 0 0), .int (nI i)] σ (fun o σ' _ => o = .returned (some (.int (if n < 100 then nI 1 else nI 0))) ∧ Lay ar ad rg pl (rpt pl f n i nc V) M σ') := by
  refine mp_in (Nat.le_of_ble_eq_true rfl) ?_
  intro p e R s m below meth c x hfr hlo hce hsl hr hlk hin hex hG hB ls H hH0 hH hS hl
  have hl : lv_has ls 2 [(0, .ref (ad 0 0)), (1, .int (nI i))] := hl
  obtain ⟨hf, hf2, hn, hn2, hpl⟩ := id hrw
  refine lv_aload_n x.1 x.2.1 dd_sg_copy_0 rfl (lv_at hl 0 rfl) ?_
  refine lv_iload_n x.1 x.2.1 dd_sg_copy_1 rfl (lv_at hl 1 rfl) ?_
  refine mp_call x (wt_mv base) hG hB hl.1 (mp_invV (av := [.int (nI i)]) x hH (la0 hL) rfl rfl mn_sg_needLetter mc_sg_needLetter (Or.inl ww_533) ww_535 ww_21 rfl dd_sg_copy_2) (kk_G_letter_ok hL (hn) hfl (in_ok (by omega) (by omega))) (Nat.le_trans (Nat.le_of_ble_eq_true rfl) hfr) (Nat.le_trans (Nat.le_of_ble_eq_true rfl) hlo) (Nat.le_trans (Nat.le_of_ble_eq_true rfl) hce) (Nat.le_trans (Nat.le_of_ble_eq_true rfl) hsl) hH hS (fun v σa t0 H locs hp252 ht0 hvm hzz hH hS => ?_) (fun _ _ _ _ _ hz _ _ _ _ _ => by cases hz.1)
  obtain ⟨ho, hσ⟩ := hp252
  cases ho
  rw [hσ] at hH
  refine W.eq (g2 := F0 m 5 ls []) rfl ?_
  refine lv_aload_n x.1 x.2.1 dd_sg_copy_5 rfl (lv_at hl 0 rfl) ?_
  refine mp_get x hH (la0 hL) fg_sg_27 rfl dd_sg_copy_6 ?_
  refine lv_iload_n x.1 x.2.1 dd_sg_copy_9 rfl (lv_at hl 1 rfl) ?_
  refine mp_call x (wt_mv base) hG hB hl.1 (mp_invV (av := [.int (nI i)]) x hH (la2 hL) rfl rfl mn_lr_repeat mc_lr_repeat (Or.inr ⟨_, ww_619⟩) ww_621 ww_37 rfl dd_sg_copy_10) (kk_R_repeat (nc := nc) hL ⟨hf, by omega, hn, by omega, hpl⟩ (by omega) hne (hc) (by omega)) (Nat.le_trans (Nat.le_of_ble_eq_true rfl) hfr) (Nat.le_trans (Nat.le_of_ble_eq_true rfl) hlo) (Nat.le_trans (Nat.le_of_ble_eq_true rfl) hce) (Nat.le_trans (Nat.le_of_ble_eq_true rfl) hsl) hH hS (fun v σa t0 H locs hp253 ht0 hvm hzz hH hS => ?_) (fun _ _ _ _ _ hz _ _ _ _ _ => by cases hz.1)
  obtain ⟨ho, hL⟩ := hp253
  cases ho
  refine W.eq (g2 := F0 m 13 ls [.int (if n < 100 then nI 1 else nI 0)]) rfl ?_
  exact mp_rz x hr (by split <;> decide) hlk (by decide) (by decide) hH hS (fun _ => ⟨rfl, hL⟩) dd_sg_copy_13
set_option maxRecDepth 100000 in
set_option maxHeartbeats 4000000 in
theorem kk_X_up_f0 {l : Launch} {D : va_G} {ar : Nat → ClassId} {base : Nat} {σ : mp_M} {ad : Nat → Nat → Nat} {rg : Nat → Bool} {pl : Nat → Nat} {V M : fV} {a0 : Nat} (hL : Lay ar ad rg pl V M σ) (hfl : l.flags = flags0) (ha : a0 < 25) (hu : upb V (nI a0) = false) : CN l D ar base yy_sg_up prog_1_method_9_code 3 (Option.some Jvm.ClassFile.FieldType.boolean) [] 7 94 6 36 [.ref (ad 0 0), .int (nI a0), .int (nI 0)] σ (fun o σ' _ => o = .returned (some (.int (nI 0))) ∧ Lay ar ad rg pl V M σ') := by
  refine mp_in (Nat.le_of_ble_eq_true rfl) ?_
  intro p e R s m below meth c x hfr hlo hce hsl hr hlk hin hex hG hB ls H hH0 hH hS hl
  have hl : lv_has ls 3 [(0, .ref (ad 0 0)), (1, .int (nI a0)), (2, .int (nI 0))] := hl
  refine lv_iload_n x.1 x.2.1 dd_sg_up_0 rfl (lv_at hl 1 rfl) ?_
  refine mp_call x (wt_mv base) hG hB hl.1 (mp_invS (av := [.int (nI a0)]) x mn_sg_needShop mc_sg_needShop (Or.inl ww_425) ww_426 ww_54 rfl dd_sg_up_1) (kk_G_shop_ok hfl (in_ok (by omega) (by decide))) (Nat.le_trans (Nat.le_of_ble_eq_true rfl) hfr) (Nat.le_trans (Nat.le_of_ble_eq_true rfl) hlo) (Nat.le_trans (Nat.le_of_ble_eq_true rfl) hce) (Nat.le_trans (Nat.le_of_ble_eq_true rfl) hsl) hH hS (fun v σa t0 H locs hp254 ht0 hvm hzz hH hS => ?_) (fun _ _ _ _ _ hz _ _ _ _ _ => by cases hz.1)
  obtain ⟨ho, hσ⟩ := hp254
  cases ho
  rw [hσ] at hH
  refine W.eq (g2 := F0 m 4 ls []) rfl ?_
  refine lv_aload_n x.1 x.2.1 dd_sg_up_4 rfl (lv_at hl 0 rfl) ?_
  refine lv_iload_n x.1 x.2.1 dd_sg_up_5 rfl (lv_at hl 1 rfl) ?_
  refine mp_call x (wt_mv base) hG hB hl.1 (mp_invV (av := [.int (nI a0)]) x hH (la0 hL) rfl rfl mn_sg_isUp mc_sg_isUp (Or.inl ww_435) ww_437 ww_4 rfl dd_sg_up_6) (kk_G_isUp hL) (Nat.le_trans (Nat.le_of_ble_eq_true rfl) hfr) (Nat.le_trans (Nat.le_of_ble_eq_true rfl) hlo) (Nat.le_trans (Nat.le_of_ble_eq_true rfl) hce) (Nat.le_trans (Nat.le_of_ble_eq_true rfl) hsl) hH hS (fun v σa t0 H locs hp255 ht0 hvm hzz hH hS => ?_) (fun _ _ _ _ _ hz _ _ _ _ _ => by cases hz.1)
  obtain ⟨ho, hσ⟩ := hp255
  cases ho
  rw [hσ] at hH
  refine W.eq (g2 := F0 m 9 ls [.int (if upb V (nI a0) = true then nI 1 else nI 0)]) rfl ?_
  refine mn_top (w := nI 0) (if_neg (by rw [hu]; decide)) ?_
  refine lv_iload_n x.1 x.2.1 dd_sg_up_9 rfl (lv_at hl 2 rfl) ?_
  refine lv_icmp_ne (tgt := 15) x.1 x.2.1 dd_sg_up_10 (by decide) (fun c256 => absurd (by decide +kernel) c256) (fun c256 => ?_)
  refine lv_iconst (v := nI 0) x.1 x.2.1 dd_sg_up_13 (by decide +kernel) ?_
  exact mp_rz x hr (by decide) hlk (by decide) (by decide) hH hS (fun _ => ⟨rfl, hL⟩) dd_sg_up_14
set_option maxRecDepth 100000 in
set_option maxHeartbeats 4000000 in
theorem kk_X_up_f1 {l : Launch} {D : va_G} {ar : Nat → ClassId} {base : Nat} {σ : mp_M} {ad : Nat → Nat → Nat} {rg : Nat → Bool} {pl : Nat → Nat} {V M : fV} {a0 : Nat} (hL : Lay ar ad rg pl V M σ) (hfl : l.flags = flags0) (ha : a0 < 25) (hu : upb V (nI a0) = false) : CN l D ar base yy_sg_up prog_1_method_9_code 3 (Option.some Jvm.ClassFile.FieldType.boolean) [] 7 94 6 36 [.ref (ad 0 0), .int (nI a0), .int (nI 1)] σ (fun o σ' _ => o = .returned (some (.int (nI 1))) ∧ Lay ar ad rg pl (mu V 59 0 (V 59 0 ^^^ nI 1 <<< (nI a0 &&& 31))) M σ') := by
  refine mp_in (Nat.le_of_ble_eq_true rfl) ?_
  intro p e R s m below meth c x hfr hlo hce hsl hr hlk hin hex hG hB ls H hH0 hH hS hl
  have hl : lv_has ls 3 [(0, .ref (ad 0 0)), (1, .int (nI a0)), (2, .int (nI 1))] := hl
  refine lv_iload_n x.1 x.2.1 dd_sg_up_0 rfl (lv_at hl 1 rfl) ?_
  refine mp_call x (wt_mv base) hG hB hl.1 (mp_invS (av := [.int (nI a0)]) x mn_sg_needShop mc_sg_needShop (Or.inl ww_425) ww_426 ww_54 rfl dd_sg_up_1) (kk_G_shop_ok hfl (in_ok (by omega) (by decide))) (Nat.le_trans (Nat.le_of_ble_eq_true rfl) hfr) (Nat.le_trans (Nat.le_of_ble_eq_true rfl) hlo) (Nat.le_trans (Nat.le_of_ble_eq_true rfl) hce) (Nat.le_trans (Nat.le_of_ble_eq_true rfl) hsl) hH hS (fun v σa t0 H locs hp257 ht0 hvm hzz hH hS => ?_) (fun _ _ _ _ _ hz _ _ _ _ _ => by cases hz.1)
  obtain ⟨ho, hσ⟩ := hp257
  cases ho
  rw [hσ] at hH
  refine W.eq (g2 := F0 m 4 ls []) rfl ?_
  refine lv_aload_n x.1 x.2.1 dd_sg_up_4 rfl (lv_at hl 0 rfl) ?_
  refine lv_iload_n x.1 x.2.1 dd_sg_up_5 rfl (lv_at hl 1 rfl) ?_
  refine mp_call x (wt_mv base) hG hB hl.1 (mp_invV (av := [.int (nI a0)]) x hH (la0 hL) rfl rfl mn_sg_isUp mc_sg_isUp (Or.inl ww_435) ww_437 ww_4 rfl dd_sg_up_6) (kk_G_isUp hL) (Nat.le_trans (Nat.le_of_ble_eq_true rfl) hfr) (Nat.le_trans (Nat.le_of_ble_eq_true rfl) hlo) (Nat.le_trans (Nat.le_of_ble_eq_true rfl) hce) (Nat.le_trans (Nat.le_of_ble_eq_true rfl) hsl) hH hS (fun v σa t0 H locs hp258 ht0 hvm hzz hH hS => ?_) (fun _ _ _ _ _ hz _ _ _ _ _ => by cases hz.1)
  obtain ⟨ho, hσ⟩ := hp258
  cases ho
  rw [hσ] at hH
  refine W.eq (g2 := F0 m 9 ls [.int (if upb V (nI a0) = true then nI 1 else nI 0)]) rfl ?_
  refine mn_top (w := nI 0) (if_neg (by rw [hu]; decide)) ?_
  refine lv_iload_n x.1 x.2.1 dd_sg_up_9 rfl (lv_at hl 2 rfl) ?_
  refine lv_icmp_ne (tgt := 15) x.1 x.2.1 dd_sg_up_10 (by decide) (fun c259 => ?_) (fun c259 => absurd c259 (by decide +kernel))
  refine lv_aload_n x.1 x.2.1 dd_sg_up_15 rfl (lv_at hl 0 rfl) ?_
  refine lv_dup x.1 x.2.1 dd_sg_up_16 rfl ?_
  refine mp_get x hH (la0 hL) fg_sg_32 rfl dd_sg_up_17 ?_
  refine lv_iconst (v := nI 1) x.1 x.2.1 dd_sg_up_20 (by decide +kernel) ?_
  refine lv_iload_n x.1 x.2.1 dd_sg_up_21 rfl (lv_at hl 1 rfl) ?_
  refine lv_ishl x.1 x.2.1 dd_sg_up_22 ?_
  refine lv_ixor x.1 x.2.1 dd_sg_up_23 ?_
  refine kp_59 x hH hS hL fp_sg_32 dd_sg_up_24 (fun σ hL H locs hH hS => ?_)
  refine lv_iload_n x.1 x.2.1 dd_sg_up_27 rfl (lv_at hl 2 rfl) ?_
  refine lv_if_ne (tgt := 36) x.1 x.2.1 dd_sg_up_28 (by decide) (fun c260 => ?_) (fun c260 => absurd c260 (by decide +kernel))
  refine lv_iconst (v := nI 1) x.1 x.2.1 dd_sg_up_36 (by decide +kernel) ?_
  exact mp_rz x hr (by decide) hlk (by decide) (by decide) hH hS (fun _ => ⟨rfl, hL⟩) dd_sg_up_37
set_option maxRecDepth 100000 in
set_option maxHeartbeats 4000000 in
theorem kk_X_up_t0 {l : Launch} {D : va_G} {ar : Nat → ClassId} {base : Nat} {σ : mp_M} {ad : Nat → Nat → Nat} {rg : Nat → Bool} {pl : Nat → Nat} {V M : fV} {a0 : Nat} (hL : Lay ar ad rg pl V M σ) (hfl : l.flags = flags0) (ha : a0 < 25) (hu : upb V (nI a0) = true) : CN l D ar base yy_sg_up prog_1_method_9_code 3 (Option.some Jvm.ClassFile.FieldType.boolean) [] 7 94 6 36 [.ref (ad 0 0), .int (nI a0), .int (nI 0)] σ (fun o σ' _ => o = .returned (some (.int (nI 1))) ∧ Lay ar ad rg pl (sea (mu V 59 0 (V 59 0 ^^^ nI 1 <<< (nI a0 &&& 31))) rg a0 20) M σ') := by
  refine mp_in (Nat.le_of_ble_eq_true rfl) ?_
  intro p e R s m below meth c x hfr hlo hce hsl hr hlk hin hex hG hB ls H hH0 hH hS hl
  have hl : lv_has ls 3 [(0, .ref (ad 0 0)), (1, .int (nI a0)), (2, .int (nI 0))] := hl
  refine lv_iload_n x.1 x.2.1 dd_sg_up_0 rfl (lv_at hl 1 rfl) ?_
  refine mp_call x (wt_mv base) hG hB hl.1 (mp_invS (av := [.int (nI a0)]) x mn_sg_needShop mc_sg_needShop (Or.inl ww_425) ww_426 ww_54 rfl dd_sg_up_1) (kk_G_shop_ok hfl (in_ok (by omega) (by decide))) (Nat.le_trans (Nat.le_of_ble_eq_true rfl) hfr) (Nat.le_trans (Nat.le_of_ble_eq_true rfl) hlo) (Nat.le_trans (Nat.le_of_ble_eq_true rfl) hce) (Nat.le_trans (Nat.le_of_ble_eq_true rfl) hsl) hH hS (fun v σa t0 H locs hp261 ht0 hvm hzz hH hS => ?_) (fun _ _ _ _ _ hz _ _ _ _ _ => by cases hz.1)
  obtain ⟨ho, hσ⟩ := hp261
  cases ho
  rw [hσ] at hH
  refine W.eq (g2 := F0 m 4 ls []) rfl ?_
  refine lv_aload_n x.1 x.2.1 dd_sg_up_4 rfl (lv_at hl 0 rfl) ?_
  refine lv_iload_n x.1 x.2.1 dd_sg_up_5 rfl (lv_at hl 1 rfl) ?_
  refine mp_call x (wt_mv base) hG hB hl.1 (mp_invV (av := [.int (nI a0)]) x hH (la0 hL) rfl rfl mn_sg_isUp mc_sg_isUp (Or.inl ww_435) ww_437 ww_4 rfl dd_sg_up_6) (kk_G_isUp hL) (Nat.le_trans (Nat.le_of_ble_eq_true rfl) hfr) (Nat.le_trans (Nat.le_of_ble_eq_true rfl) hlo) (Nat.le_trans (Nat.le_of_ble_eq_true rfl) hce) (Nat.le_trans (Nat.le_of_ble_eq_true rfl) hsl) hH hS (fun v σa t0 H locs hp262 ht0 hvm hzz hH hS => ?_) (fun _ _ _ _ _ hz _ _ _ _ _ => by cases hz.1)
  obtain ⟨ho, hσ⟩ := hp262
  cases ho
  rw [hσ] at hH
  refine W.eq (g2 := F0 m 9 ls [.int (if upb V (nI a0) = true then nI 1 else nI 0)]) rfl ?_
  refine mn_top (w := nI 1) (if_pos hu) ?_
  refine lv_iload_n x.1 x.2.1 dd_sg_up_9 rfl (lv_at hl 2 rfl) ?_
  refine lv_icmp_ne (tgt := 15) x.1 x.2.1 dd_sg_up_10 (by decide) (fun c263 => ?_) (fun c263 => absurd c263 (by decide +kernel))
  refine lv_aload_n x.1 x.2.1 dd_sg_up_15 rfl (lv_at hl 0 rfl) ?_
  refine lv_dup x.1 x.2.1 dd_sg_up_16 rfl ?_
  refine mp_get x hH (la0 hL) fg_sg_32 rfl dd_sg_up_17 ?_
  refine lv_iconst (v := nI 1) x.1 x.2.1 dd_sg_up_20 (by decide +kernel) ?_
  refine lv_iload_n x.1 x.2.1 dd_sg_up_21 rfl (lv_at hl 1 rfl) ?_
  refine lv_ishl x.1 x.2.1 dd_sg_up_22 ?_
  refine lv_ixor x.1 x.2.1 dd_sg_up_23 ?_
  refine kp_59 x hH hS hL fp_sg_32 dd_sg_up_24 (fun σ hL H locs hH hS => ?_)
  refine lv_iload_n x.1 x.2.1 dd_sg_up_27 rfl (lv_at hl 2 rfl) ?_
  refine lv_if_ne (tgt := 36) x.1 x.2.1 dd_sg_up_28 (by decide) (fun c264 => absurd (by decide +kernel) c264) (fun c264 => ?_)
  refine lv_aload_n x.1 x.2.1 dd_sg_up_31 rfl (lv_at hl 0 rfl) ?_
  refine lv_iload_n x.1 x.2.1 dd_sg_up_32 rfl (lv_at hl 1 rfl) ?_
  refine mp_call x (wt_mv base) hG hB hl.1 (mp_invV (av := [.int (nI a0)]) x hH (la0 hL) rfl rfl mn_sg_endAskings mc_sg_endAskings (Or.inl ww_637) ww_639 ww_38 rfl dd_sg_up_33) (kk_G_endAskings (a0 := a0) hL (by omega)) (Nat.le_trans (Nat.le_of_ble_eq_true rfl) hfr) (Nat.le_trans (Nat.le_of_ble_eq_true rfl) hlo) (Nat.le_trans (Nat.le_of_ble_eq_true rfl) hce) (Nat.le_trans (Nat.le_of_ble_eq_true rfl) hsl) hH hS (fun v σa t0 H locs hp265 ht0 hvm hzz hH hS => ?_) (fun _ _ _ _ _ hz _ _ _ _ _ => by cases hz.1)
  obtain ⟨ho, hL⟩ := hp265
  cases ho
  refine W.eq (g2 := F0 m 36 ls []) rfl ?_
  refine lv_iconst (v := nI 1) x.1 x.2.1 dd_sg_up_36 (by decide +kernel) ?_
  exact mp_rz x hr (by decide) hlk (by decide) (by decide) hH hS (fun _ => ⟨rfl, hL⟩) dd_sg_up_37
set_option maxRecDepth 100000 in
set_option maxHeartbeats 4000000 in
theorem kk_X_up_t1 {l : Launch} {D : va_G} {ar : Nat → ClassId} {base : Nat} {σ : mp_M} {ad : Nat → Nat → Nat} {rg : Nat → Bool} {pl : Nat → Nat} {V M : fV} {a0 : Nat} (hL : Lay ar ad rg pl V M σ) (hfl : l.flags = flags0) (ha : a0 < 25) (hu : upb V (nI a0) = true) : CN l D ar base yy_sg_up prog_1_method_9_code 3 (Option.some Jvm.ClassFile.FieldType.boolean) [] 7 94 6 36 [.ref (ad 0 0), .int (nI a0), .int (nI 1)] σ (fun o σ' _ => o = .returned (some (.int (nI 0))) ∧ Lay ar ad rg pl V M σ') := by
  refine mp_in (Nat.le_of_ble_eq_true rfl) ?_
  intro p e R s m below meth c x hfr hlo hce hsl hr hlk hin hex hG hB ls H hH0 hH hS hl
  have hl : lv_has ls 3 [(0, .ref (ad 0 0)), (1, .int (nI a0)), (2, .int (nI 1))] := hl
  refine lv_iload_n x.1 x.2.1 dd_sg_up_0 rfl (lv_at hl 1 rfl) ?_
  refine mp_call x (wt_mv base) hG hB hl.1 (mp_invS (av := [.int (nI a0)]) x mn_sg_needShop mc_sg_needShop (Or.inl ww_425) ww_426 ww_54 rfl dd_sg_up_1) (kk_G_shop_ok hfl (in_ok (by omega) (by decide))) (Nat.le_trans (Nat.le_of_ble_eq_true rfl) hfr) (Nat.le_trans (Nat.le_of_ble_eq_true rfl) hlo) (Nat.le_trans (Nat.le_of_ble_eq_true rfl) hce) (Nat.le_trans (Nat.le_of_ble_eq_true rfl) hsl) hH hS (fun v σa t0 H locs hp266 ht0 hvm hzz hH hS => ?_) (fun _ _ _ _ _ hz _ _ _ _ _ => by cases hz.1)
  obtain ⟨ho, hσ⟩ := hp266
  cases ho
  rw [hσ] at hH
  refine W.eq (g2 := F0 m 4 ls []) rfl ?_
  refine lv_aload_n x.1 x.2.1 dd_sg_up_4 rfl (lv_at hl 0 rfl) ?_
  refine lv_iload_n x.1 x.2.1 dd_sg_up_5 rfl (lv_at hl 1 rfl) ?_
  refine mp_call x (wt_mv base) hG hB hl.1 (mp_invV (av := [.int (nI a0)]) x hH (la0 hL) rfl rfl mn_sg_isUp mc_sg_isUp (Or.inl ww_435) ww_437 ww_4 rfl dd_sg_up_6) (kk_G_isUp hL) (Nat.le_trans (Nat.le_of_ble_eq_true rfl) hfr) (Nat.le_trans (Nat.le_of_ble_eq_true rfl) hlo) (Nat.le_trans (Nat.le_of_ble_eq_true rfl) hce) (Nat.le_trans (Nat.le_of_ble_eq_true rfl) hsl) hH hS (fun v σa t0 H locs hp267 ht0 hvm hzz hH hS => ?_) (fun _ _ _ _ _ hz _ _ _ _ _ => by cases hz.1)
  obtain ⟨ho, hσ⟩ := hp267
  cases ho
  rw [hσ] at hH
  refine W.eq (g2 := F0 m 9 ls [.int (if upb V (nI a0) = true then nI 1 else nI 0)]) rfl ?_
  refine mn_top (w := nI 1) (if_pos hu) ?_
  refine lv_iload_n x.1 x.2.1 dd_sg_up_9 rfl (lv_at hl 2 rfl) ?_
  refine lv_icmp_ne (tgt := 15) x.1 x.2.1 dd_sg_up_10 (by decide) (fun c268 => absurd (by decide +kernel) c268) (fun c268 => ?_)
  refine lv_iconst (v := nI 0) x.1 x.2.1 dd_sg_up_13 (by decide +kernel) ?_
  exact mp_rz x hr (by decide) hlk (by decide) (by decide) hH hS (fun _ => ⟨rfl, hL⟩) dd_sg_up_14
set_option maxRecDepth 100000 in
set_option maxHeartbeats 4000000 in
theorem kk_X_teach_0 {l : Launch} {D : va_G} {ar : Nat → ClassId} {base : Nat} {σ : mp_M} {ad : Nat → Nat → Nat} {rg : Nat → Bool} {pl : Nat → Nat} {V M : fV} {f n a0 a1 b0 d nc : Nat} (hL : Lay ar ad rg pl V M σ) (hfl : l.flags = flags0) (hrw : RW pl V f n) (ha : a0 < 25) (ha1 : a1 < 25) (hb : b0 < 20) (hdx : dx rg a0 b0 = d) (hup : upb V (nI a0) = true) (hc : V 34 d = nI nc) (hc2 : nc ≤ 12) : CN l D ar base yy_sg_teach prog_1_method_10_code 4 (Option.some Jvm.ClassFile.FieldType.boolean) [] 7 94 6 36 [.ref (ad 0 0), .int (nI a0), .int (nI a1), .int (nI b0)] σ (fun o σ' _ => o = .returned (some (.int (if n < 100 then nI 1 else nI 0))) ∧ Lay ar ad rg pl (snd pl f n nc (swr V 101 (nI 6) (nI a0) (nI b0) (nI 0) (nI 0) d nc) (nI a1)) M σ') := by
  refine mp_in (Nat.le_of_ble_eq_true rfl) ?_
  intro p e R s m below meth c x hfr hlo hce hsl hr hlk hin hex hG hB ls H hH0 hH hS hl
  have hl : lv_has ls 4 [(0, .ref (ad 0 0)), (1, .int (nI a0)), (2, .int (nI a1)), (3, .int (nI b0))] := hl
  obtain ⟨hf, hf2, hn, hn2, hpl⟩ := id hrw
  have hd : dk rg d := hdx ▸ dx_dk ha hb
  have hd5 := dk_le hd
  refine lv_iload_n x.1 x.2.1 dd_sg_teach_0 rfl (lv_at hl 1 rfl) ?_
  refine mp_call x (wt_mv base) hG hB hl.1 (mp_invS (av := [.int (nI a0)]) x mn_sg_needShop mc_sg_needShop (Or.inl ww_425) ww_426 ww_54 rfl dd_sg_teach_1) (kk_G_shop_ok hfl (in_ok (by omega) (by decide))) (Nat.le_trans (Nat.le_of_ble_eq_true rfl) hfr) (Nat.le_trans (Nat.le_of_ble_eq_true rfl) hlo) (Nat.le_trans (Nat.le_of_ble_eq_true rfl) hce) (Nat.le_trans (Nat.le_of_ble_eq_true rfl) hsl) hH hS (fun v σa t0 H locs hp269 ht0 hvm hzz hH hS => ?_) (fun _ _ _ _ _ hz _ _ _ _ _ => by cases hz.1)
  obtain ⟨ho, hσ⟩ := hp269
  cases ho
  rw [hσ] at hH
  refine W.eq (g2 := F0 m 4 ls []) rfl ?_
  refine lv_iload_n x.1 x.2.1 dd_sg_teach_4 rfl (lv_at hl 2 rfl) ?_
  refine mp_call x (wt_mv base) hG hB hl.1 (mp_invS (av := [.int (nI a1)]) x mn_sg_needShop mc_sg_needShop (Or.inl ww_425) ww_426 ww_54 rfl dd_sg_teach_5) (kk_G_shop_ok hfl (in_ok (by omega) (by decide))) (Nat.le_trans (Nat.le_of_ble_eq_true rfl) hfr) (Nat.le_trans (Nat.le_of_ble_eq_true rfl) hlo) (Nat.le_trans (Nat.le_of_ble_eq_true rfl) hce) (Nat.le_trans (Nat.le_of_ble_eq_true rfl) hsl) hH hS (fun v σa t0 H locs hp270 ht0 hvm hzz hH hS => ?_) (fun _ _ _ _ _ hz _ _ _ _ _ => by cases hz.1)
  obtain ⟨ho, hσ⟩ := hp270
  cases ho
  rw [hσ] at hH
  refine W.eq (g2 := F0 m 8 ls []) rfl ?_
  refine lv_iload_n x.1 x.2.1 dd_sg_teach_8 rfl (lv_at hl 3 rfl) ?_
  refine mp_call x (wt_mv base) hG hB hl.1 (mp_invS (av := [.int (nI b0)]) x mn_sg_needPrescription mc_sg_needPrescription (Or.inl ww_309) ww_310 ww_54 rfl dd_sg_teach_9) (kk_G_pres_ok hfl (in_ok (by omega) (by decide))) (Nat.le_trans (Nat.le_of_ble_eq_true rfl) hfr) (Nat.le_trans (Nat.le_of_ble_eq_true rfl) hlo) (Nat.le_trans (Nat.le_of_ble_eq_true rfl) hce) (Nat.le_trans (Nat.le_of_ble_eq_true rfl) hsl) hH hS (fun v σa t0 H locs hp271 ht0 hvm hzz hH hS => ?_) (fun _ _ _ _ _ hz _ _ _ _ _ => by cases hz.1)
  obtain ⟨ho, hσ⟩ := hp271
  cases ho
  rw [hσ] at hH
  refine W.eq (g2 := F0 m 12 ls []) rfl ?_
  refine lv_aload_n x.1 x.2.1 dd_sg_teach_12 rfl (lv_at hl 0 rfl) ?_
  refine lv_iload_n x.1 x.2.1 dd_sg_teach_13 rfl (lv_at hl 1 rfl) ?_
  refine mp_call x (wt_mv base) hG hB hl.1 (mp_invV (av := [.int (nI a0)]) x hH (la0 hL) rfl rfl mn_sg_needUp mc_sg_needUp (Or.inl ww_431) ww_433 ww_3 rfl dd_sg_teach_14) (kk_G_up_ok hL hfl hup) (Nat.le_trans (Nat.le_of_ble_eq_true rfl) hfr) (Nat.le_trans (Nat.le_of_ble_eq_true rfl) hlo) (Nat.le_trans (Nat.le_of_ble_eq_true rfl) hce) (Nat.le_trans (Nat.le_of_ble_eq_true rfl) hsl) hH hS (fun v σa t0 H locs hp272 ht0 hvm hzz hH hS => ?_) (fun _ _ _ _ _ hz _ _ _ _ _ => by cases hz.1)
  obtain ⟨ho, hσ⟩ := hp272
  cases ho
  rw [hσ] at hH
  refine W.eq (g2 := F0 m 17 ls []) rfl ?_
  refine lv_aload_n x.1 x.2.1 dd_sg_teach_17 rfl (lv_at hl 0 rfl) ?_
  refine mp_get x hH (la0 hL) fg_sg_27 rfl dd_sg_teach_18 ?_
  refine mp_get x hH (la2 hL) fg_sg_132 rfl dd_sg_teach_21 ?_
  refine lv_bipush (v := nI 6) x.1 x.2.1 dd_sg_teach_24 (by decide +kernel) ?_
  refine lv_iload_n x.1 x.2.1 dd_sg_teach_26 rfl (lv_at hl 1 rfl) ?_
  refine lv_iload_n x.1 x.2.1 dd_sg_teach_27 rfl (lv_at hl 3 rfl) ?_
  refine lv_iconst (v := nI 0) x.1 x.2.1 dd_sg_teach_28 (by decide +kernel) ?_
  refine lv_iconst (v := nI 0) x.1 x.2.1 dd_sg_teach_29 (by decide +kernel) ?_
  refine lv_aload_n x.1 x.2.1 dd_sg_teach_30 rfl (lv_at hl 0 rfl) ?_
  refine lv_iload_n x.1 x.2.1 dd_sg_teach_31 rfl (lv_at hl 1 rfl) ?_
  refine lv_iload_n x.1 x.2.1 dd_sg_teach_32 rfl (lv_at hl 3 rfl) ?_
  refine mp_call x (wt_mv base) hG hB hl.1 (mp_invV (av := [.int (nI a0), .int (nI b0)]) x hH (la0 hL) rfl rfl mn_sg_deskOf mc_sg_deskOf (Or.inl ww_517) ww_519 ww_19 rfl dd_sg_teach_33) (kk_G_deskOf (a0 := a0) (b0 := b0) hL (by omega) (by omega) hdx) (Nat.le_trans (Nat.le_of_ble_eq_true rfl) hfr) (Nat.le_trans (Nat.le_of_ble_eq_true rfl) hlo) (Nat.le_trans (Nat.le_of_ble_eq_true rfl) hce) (Nat.le_trans (Nat.le_of_ble_eq_true rfl) hsl) hH hS (fun v σa t0 H locs hp273 ht0 hvm hzz hH hS => ?_) (fun _ _ _ _ _ hz _ _ _ _ _ => by cases hz.1)
  obtain ⟨ho, hσ⟩ := hp273
  cases ho
  rw [hσ] at hH
  refine W.eq (g2 := F0 m 36 ls [.ref (ad 9 d), .int (nI 0), .int (nI 0), .int (nI b0), .int (nI a0), .int (nI 6), .ref (ad 4 101)]) rfl ?_
  refine mp_get x hH (la9 hL hd) fg_sg_136 rfl dd_sg_teach_36 ?_
  refine mp_call x (wt_mv base) hG hB hl.1 (mp_invV (av := [.int (nI 6), .int (nI a0), .int (nI b0), .int (nI 0), .int (nI 0), .ref (ad 10 d)]) x hH (la4 hL (by decide)) rfl rfl mn_lt_write mc_lt_write (Or.inr ⟨_, ww_490⟩) ww_492 ww_14 rfl dd_sg_teach_39) (kk_L_write (nc := nc) hL (by decide) hd (hc) (by omega)) (Nat.le_trans (Nat.le_of_ble_eq_true rfl) hfr) (Nat.le_trans (Nat.le_of_ble_eq_true rfl) hlo) (Nat.le_trans (Nat.le_of_ble_eq_true rfl) hce) (Nat.le_trans (Nat.le_of_ble_eq_true rfl) hsl) hH hS (fun v σa t0 H locs hp274 ht0 hvm hzz hH hS => ?_) (fun _ _ _ _ _ hz _ _ _ _ _ => by cases hz.1)
  obtain ⟨ho, hL⟩ := hp274
  cases ho
  refine W.eq (g2 := F0 m 42 ls []) rfl ?_
  refine lv_aload_n x.1 x.2.1 dd_sg_teach_42 rfl (lv_at hl 0 rfl) ?_
  refine mp_get x hH (la0 hL) fg_sg_27 rfl dd_sg_teach_43 ?_
  refine lv_iload_n x.1 x.2.1 dd_sg_teach_46 rfl (lv_at hl 2 rfl) ?_
  refine mp_call x (wt_mv base) hG hB hl.1 (mp_invV (av := [.int (nI a1)]) x hH (la2 hL) rfl rfl mn_lr_send mc_lr_send (Or.inr ⟨_, ww_498⟩) ww_500 ww_16 rfl dd_sg_teach_47) (kk_R_send (nc := nc) hL ⟨(swr_o (by omega) (by omega)).trans (hf), by omega, (swr_o (by omega) (by omega)).trans (hn), by omega, hpl⟩ (swr_52 (by decide)) (by omega)) (Nat.le_trans (Nat.le_of_ble_eq_true rfl) hfr) (Nat.le_trans (Nat.le_of_ble_eq_true rfl) hlo) (Nat.le_trans (Nat.le_of_ble_eq_true rfl) hce) (Nat.le_trans (Nat.le_of_ble_eq_true rfl) hsl) hH hS (fun v σa t0 H locs hp275 ht0 hvm hzz hH hS => ?_) (fun _ _ _ _ _ hz _ _ _ _ _ => by cases hz.1)
  obtain ⟨ho, hL⟩ := hp275
  cases ho
  refine W.eq (g2 := F0 m 50 ls [.int (if n < 100 then nI 1 else nI 0)]) rfl ?_
  exact mp_rz x hr (by split <;> decide) hlk (by decide) (by decide) hH hS (fun _ => ⟨rfl, hL⟩) dd_sg_teach_50
set_option maxRecDepth 100000 in
set_option maxHeartbeats 4000000 in
theorem kk_X_teach_2 {l : Launch} {D : va_G} {ar : Nat → ClassId} {base : Nat} {σ : mp_M} {ad : Nat → Nat → Nat} {rg : Nat → Bool} {pl : Nat → Nat} {V M : fV} {a0 a1 b0 : Nat} (hL : Lay ar ad rg pl V M σ) (hfl : l.flags = flags0) (ha : a0 < 25) (ha1 : a1 < 25) (hb : b0 < 20) (hup : upb V (nI a0) = false) : CN l D ar base yy_sg_teach prog_1_method_10_code 4 (Option.some Jvm.ClassFile.FieldType.boolean) [] 7 95 6 36 [.ref (ad 0 0), .int (nI a0), .int (nI a1), .int (nI b0)] σ (fun o σ' t => ∃ a, o = .threw a ∧ mp_T mp_ise a t ∧ σ' = σ) := by
  refine mp_in (Nat.le_of_ble_eq_true rfl) ?_
  intro p e R s m below meth c x hfr hlo hce hsl hr hlk hin hex hG hB ls H hH0 hH hS hl
  have hl : lv_has ls 4 [(0, .ref (ad 0 0)), (1, .int (nI a0)), (2, .int (nI a1)), (3, .int (nI b0))] := hl
  refine lv_iload_n x.1 x.2.1 dd_sg_teach_0 rfl (lv_at hl 1 rfl) ?_
  refine mp_call x (wt_mv base) hG hB hl.1 (mp_invS (av := [.int (nI a0)]) x mn_sg_needShop mc_sg_needShop (Or.inl ww_425) ww_426 ww_54 rfl dd_sg_teach_1) (kk_G_shop_ok hfl (in_ok (by omega) (by decide))) (Nat.le_trans (Nat.le_of_ble_eq_true rfl) hfr) (Nat.le_trans (Nat.le_of_ble_eq_true rfl) hlo) (Nat.le_trans (Nat.le_of_ble_eq_true rfl) hce) (Nat.le_trans (Nat.le_of_ble_eq_true rfl) hsl) hH hS (fun v σa t0 H locs hp276 ht0 hvm hzz hH hS => ?_) (fun _ _ _ _ _ hz _ _ _ _ _ => by cases hz.1)
  obtain ⟨ho, hσ⟩ := hp276
  cases ho
  rw [hσ] at hH
  refine W.eq (g2 := F0 m 4 ls []) rfl ?_
  refine lv_iload_n x.1 x.2.1 dd_sg_teach_4 rfl (lv_at hl 2 rfl) ?_
  refine mp_call x (wt_mv base) hG hB hl.1 (mp_invS (av := [.int (nI a1)]) x mn_sg_needShop mc_sg_needShop (Or.inl ww_425) ww_426 ww_54 rfl dd_sg_teach_5) (kk_G_shop_ok hfl (in_ok (by omega) (by decide))) (Nat.le_trans (Nat.le_of_ble_eq_true rfl) hfr) (Nat.le_trans (Nat.le_of_ble_eq_true rfl) hlo) (Nat.le_trans (Nat.le_of_ble_eq_true rfl) hce) (Nat.le_trans (Nat.le_of_ble_eq_true rfl) hsl) hH hS (fun v σa t0 H locs hp277 ht0 hvm hzz hH hS => ?_) (fun _ _ _ _ _ hz _ _ _ _ _ => by cases hz.1)
  obtain ⟨ho, hσ⟩ := hp277
  cases ho
  rw [hσ] at hH
  refine W.eq (g2 := F0 m 8 ls []) rfl ?_
  refine lv_iload_n x.1 x.2.1 dd_sg_teach_8 rfl (lv_at hl 3 rfl) ?_
  refine mp_call x (wt_mv base) hG hB hl.1 (mp_invS (av := [.int (nI b0)]) x mn_sg_needPrescription mc_sg_needPrescription (Or.inl ww_309) ww_310 ww_54 rfl dd_sg_teach_9) (kk_G_pres_ok hfl (in_ok (by omega) (by decide))) (Nat.le_trans (Nat.le_of_ble_eq_true rfl) hfr) (Nat.le_trans (Nat.le_of_ble_eq_true rfl) hlo) (Nat.le_trans (Nat.le_of_ble_eq_true rfl) hce) (Nat.le_trans (Nat.le_of_ble_eq_true rfl) hsl) hH hS (fun v σa t0 H locs hp278 ht0 hvm hzz hH hS => ?_) (fun _ _ _ _ _ hz _ _ _ _ _ => by cases hz.1)
  obtain ⟨ho, hσ⟩ := hp278
  cases ho
  rw [hσ] at hH
  refine W.eq (g2 := F0 m 12 ls []) rfl ?_
  refine lv_aload_n x.1 x.2.1 dd_sg_teach_12 rfl (lv_at hl 0 rfl) ?_
  refine lv_iload_n x.1 x.2.1 dd_sg_teach_13 rfl (lv_at hl 1 rfl) ?_
  refine mp_call x (wt_mv base) hG hB hl.1 (mp_invV (av := [.int (nI a0)]) x hH (la0 hL) rfl rfl mn_sg_needUp mc_sg_needUp (Or.inl ww_431) ww_433 ww_3 rfl dd_sg_teach_14) (kk_G_up_no hL hfl hup) (Nat.le_trans (Nat.le_of_ble_eq_true rfl) hfr) (Nat.le_trans (Nat.le_of_ble_eq_true rfl) hlo) (Nat.le_trans (Nat.le_of_ble_eq_true rfl) hce) (Nat.le_trans (Nat.le_of_ble_eq_true rfl) hsl) hH hS (fun v σa t0 H locs hp279 ht0 hvm hzz hH hS => by obtain ⟨a, ho, -⟩ := hp279; cases ho) (fun a σa t0 H locs hp279 ht0 hvm hzz hH hS => ?_)
  obtain ⟨a, ho, hT, hσ⟩ := hp279
  cases ho
  rw [hσ] at hH
  exact mp_ro hlk hex (by decide) (by decide) hH hS hT ht0 hvm (fun t hT => ⟨a, rfl, hT, rfl⟩)
set_option maxRecDepth 100000 in
set_option maxHeartbeats 4000000 in
theorem kk_X_pool {l : Launch} {D : va_G} {ar : Nat → ClassId} {base : Nat} {σ : mp_M} {ad : Nat → Nat → Nat} {rg : Nat → Bool} {pl : Nat → Nat} {V M : fV}  (hL : Lay ar ad rg pl V M σ)  : CN l D ar base yy_sg_pool prog_1_method_11_code 1 (Option.some Jvm.ClassFile.FieldType.int) [] 0 0 0 0 [.ref (ad 0 0)] σ (fun o σ' _ => o = .returned (some (.int (V 55 0))) ∧ Lay ar ad rg pl V M σ') := by
  refine mp_in (Nat.le_of_ble_eq_true rfl) ?_
  intro p e R s m below meth c x hfr hlo hce hsl hr hlk hin hex hG hB ls H hH0 hH hS hl
  have hl : lv_has ls 1 [(0, .ref (ad 0 0))] := hl
  refine lv_aload_n x.1 x.2.1 dd_sg_pool_0 rfl (lv_at hl 0 rfl) ?_
  refine mp_get x hH (la0 hL) fg_sg_27 rfl dd_sg_pool_1 ?_
  refine mp_get x hH (la2 hL) fg_sg_123 rfl dd_sg_pool_4 ?_
  exact mp_ri x hr hlk (by decide) (by decide) hH hS (fun _ => ⟨rfl, hL⟩) dd_sg_pool_7
set_option maxRecDepth 100000 in
set_option maxHeartbeats 4000000 in
theorem kk_X_letter_0 {l : Launch} {D : va_G} {ar : Nat → ClassId} {base : Nat} {σ : mp_M} {ad : Nat → Nat → Nat} {rg : Nat → Bool} {pl : Nat → Nat} {V M : fV} {f n i j t : Nat} (hL : Lay ar ad rg pl V M σ) (hfl : l.flags = flags0) (hrw : RW pl V f n) (hi : i < n) (hte : pl ((f + i) % 100 + 1) = t) (ht : t < 101) (hj : j < 10) : CN l D ar base yy_sg_letter prog_1_method_12_code 3 (Option.some Jvm.ClassFile.FieldType.int) [] 7 96 6 36 [.ref (ad 0 0), .int (nI i), .int (nI j)] σ (fun o σ' _ => o = .returned (some (.int (lpt V t j))) ∧ Lay ar ad rg pl V M σ') := by
  refine mp_in (Nat.le_of_ble_eq_true rfl) ?_
  intro p e R s m below meth c x hfr hlo hce hsl hr hlk hin hex hG hB ls H hH0 hH hS hl
  have hl : lv_has ls 3 [(0, .ref (ad 0 0)), (1, .int (nI i)), (2, .int (nI j))] := hl
  obtain ⟨hf, hf2, hn, hn2, hpl⟩ := id hrw
  refine lv_aload_n x.1 x.2.1 dd_sg_letter_0 rfl (lv_at hl 0 rfl) ?_
  refine lv_iload_n x.1 x.2.1 dd_sg_letter_1 rfl (lv_at hl 1 rfl) ?_
  refine mp_call x (wt_mv base) hG hB hl.1 (mp_invV (av := [.int (nI i)]) x hH (la0 hL) rfl rfl mn_sg_needLetter mc_sg_needLetter (Or.inl ww_533) ww_535 ww_21 rfl dd_sg_letter_2) (kk_G_letter_ok hL (hn) hfl (in_ok (by omega) (by omega))) (Nat.le_trans (Nat.le_of_ble_eq_true rfl) hfr) (Nat.le_trans (Nat.le_of_ble_eq_true rfl) hlo) (Nat.le_trans (Nat.le_of_ble_eq_true rfl) hce) (Nat.le_trans (Nat.le_of_ble_eq_true rfl) hsl) hH hS (fun v σa t0 H locs hp280 ht0 hvm hzz hH hS => ?_) (fun _ _ _ _ _ hz _ _ _ _ _ => by cases hz.1)
  obtain ⟨ho, hσ⟩ := hp280
  cases ho
  rw [hσ] at hH
  refine W.eq (g2 := F0 m 5 ls []) rfl ?_
  refine lv_iload_n x.1 x.2.1 dd_sg_letter_5 rfl (lv_at hl 2 rfl) ?_
  refine lv_iconst (v := nI 0) x.1 x.2.1 dd_sg_letter_6 (by decide +kernel) ?_
  refine lv_bipush (v := nI 9) x.1 x.2.1 dd_sg_letter_7 (by decide +kernel) ?_
  refine mp_call x (wt_mv base) hG hB hl.1 (mp_invS (av := [.int (nI j), .int (nI 0), .int (nI 9)]) x mn_sg_needWithin mc_sg_needWithin (Or.inl ww_379) ww_380 ww_54 rfl dd_sg_letter_9) (kk_G_within_ok hfl (wi_ok (by omega) (by omega) (by decide))) (Nat.le_trans (Nat.le_of_ble_eq_true rfl) hfr) (Nat.le_trans (Nat.le_of_ble_eq_true rfl) hlo) (Nat.le_trans (Nat.le_of_ble_eq_true rfl) hce) (Nat.le_trans (Nat.le_of_ble_eq_true rfl) hsl) hH hS (fun v σa t0 H locs hp281 ht0 hvm hzz hH hS => ?_) (fun _ _ _ _ _ hz _ _ _ _ _ => by cases hz.1)
  obtain ⟨ho, hσ⟩ := hp281
  cases ho
  rw [hσ] at hH
  refine W.eq (g2 := F0 m 12 ls []) rfl ?_
  refine lv_aload_n x.1 x.2.1 dd_sg_letter_12 rfl (lv_at hl 0 rfl) ?_
  refine mp_get x hH (la0 hL) fg_sg_27 rfl dd_sg_letter_13 ?_
  refine lv_iload_n x.1 x.2.1 dd_sg_letter_16 rfl (lv_at hl 1 rfl) ?_
  refine mp_call x (wt_mv base) hG hB hl.1 (mp_invV (av := [.int (nI i)]) x hH (la2 hL) rfl rfl mn_lr_at mc_lr_at (Or.inr ⟨_, ww_655⟩) ww_544 ww_23 rfl dd_sg_letter_17) (kk_R_at (f := f) (j := i) hL (hf) (by omega) (by omega)) (Nat.le_trans (Nat.le_of_ble_eq_true rfl) hfr) (Nat.le_trans (Nat.le_of_ble_eq_true rfl) hlo) (Nat.le_trans (Nat.le_of_ble_eq_true rfl) hce) (Nat.le_trans (Nat.le_of_ble_eq_true rfl) hsl) hH hS (fun v σa t0 H locs hp282 ht0 hvm hzz hH hS => ?_) (fun _ _ _ _ _ hz _ _ _ _ _ => by cases hz.1)
  obtain ⟨ho, hσ⟩ := hp282
  cases ho
  rw [hσ] at hH
  refine W.eq (g2 := F0 m 20 ls [.ref (ad 4 (pl ((f + i) % 100 + 1)))]) rfl ?_
  rw [hte]
  refine lv_iload_n x.1 x.2.1 dd_sg_letter_20 rfl (lv_at hl 2 rfl) ?_
  refine mp_call x (wt_mv base) hG hB hl.1 (mp_invV (av := [.int (nI j)]) x hH (la4 hL (Nat.lt_trans ht (by decide))) rfl rfl mn_lt_part mc_lt_part (Or.inr ⟨_, ww_656⟩) ww_658 ww_39 rfl dd_sg_letter_21) (kk_L_part hL (Nat.lt_trans ht (by decide)) (by omega)) (Nat.le_trans (Nat.le_of_ble_eq_true rfl) hfr) (Nat.le_trans (Nat.le_of_ble_eq_true rfl) hlo) (Nat.le_trans (Nat.le_of_ble_eq_true rfl) hce) (Nat.le_trans (Nat.le_of_ble_eq_true rfl) hsl) hH hS (fun v σa t0 H locs hp283 ht0 hvm hzz hH hS => ?_) (fun _ _ _ _ _ hz _ _ _ _ _ => by cases hz.1)
  obtain ⟨ho, hσ⟩ := hp283
  cases ho
  rw [hσ] at hH
  refine W.eq (g2 := F0 m 24 ls [.int (lpt V t j)]) rfl ?_
  exact mp_ri x hr hlk (by decide) (by decide) hH hS (fun _ => ⟨rfl, hL⟩) dd_sg_letter_24
def sst (V : fV) (d a0 nc : Nat) : Int32 := if ¬ V 39 d = 0 then nI 1 else if nc = 0 then nI 0 else if sO (V (100 + d) (nc - 1)) = nI a0 then nI 2 else nI 3
set_option maxRecDepth 100000 in
set_option maxHeartbeats 4000000 in
theorem kk_X_state_0 {l : Launch} {D : va_G} {ar : Nat → ClassId} {base : Nat} {σ : mp_M} {ad : Nat → Nat → Nat} {rg : Nat → Bool} {pl : Nat → Nat} {V M : fV} {a0 b0 d nc : Nat} (hL : Lay ar ad rg pl V M σ) (hfl : l.flags = flags0) (ha : a0 < 25) (hb : b0 < 20) (hdx : dx rg a0 b0 = d) (hc : V 34 d = nI nc) (hc2 : nc ≤ 12) : CN l D ar base yy_sg_state prog_1_method_13_code 4 (Option.some Jvm.ClassFile.FieldType.int) [] 7 94 6 36 [.ref (ad 0 0), .int (nI a0), .int (nI b0)] σ (fun o σ' _ => o = .returned (some (.int (sst V d a0 nc))) ∧ Lay ar ad rg pl V M σ') := by
  refine mp_in (Nat.le_of_ble_eq_true rfl) ?_
  intro p e R s m below meth c x hfr hlo hce hsl hr hlk hin hex hG hB ls H hH0 hH hS hl
  have hl : lv_has ls 4 [(0, .ref (ad 0 0)), (1, .int (nI a0)), (2, .int (nI b0))] := hl
  have hd : dk rg d := hdx ▸ dx_dk ha hb
  have hd5 := dk_le hd
  refine lv_iload_n x.1 x.2.1 dd_sg_state_0 rfl (lv_at hl 1 rfl) ?_
  refine mp_call x (wt_mv base) hG hB hl.1 (mp_invS (av := [.int (nI a0)]) x mn_sg_needShop mc_sg_needShop (Or.inl ww_425) ww_426 ww_54 rfl dd_sg_state_1) (kk_G_shop_ok hfl (in_ok (by omega) (by decide))) (Nat.le_trans (Nat.le_of_ble_eq_true rfl) hfr) (Nat.le_trans (Nat.le_of_ble_eq_true rfl) hlo) (Nat.le_trans (Nat.le_of_ble_eq_true rfl) hce) (Nat.le_trans (Nat.le_of_ble_eq_true rfl) hsl) hH hS (fun v σa t0 H locs hp284 ht0 hvm hzz hH hS => ?_) (fun _ _ _ _ _ hz _ _ _ _ _ => by cases hz.1)
  obtain ⟨ho, hσ⟩ := hp284
  cases ho
  rw [hσ] at hH
  refine W.eq (g2 := F0 m 4 ls []) rfl ?_
  refine lv_iload_n x.1 x.2.1 dd_sg_state_4 rfl (lv_at hl 2 rfl) ?_
  refine mp_call x (wt_mv base) hG hB hl.1 (mp_invS (av := [.int (nI b0)]) x mn_sg_needPrescription mc_sg_needPrescription (Or.inl ww_309) ww_310 ww_54 rfl dd_sg_state_5) (kk_G_pres_ok hfl (in_ok (by omega) (by decide))) (Nat.le_trans (Nat.le_of_ble_eq_true rfl) hfr) (Nat.le_trans (Nat.le_of_ble_eq_true rfl) hlo) (Nat.le_trans (Nat.le_of_ble_eq_true rfl) hce) (Nat.le_trans (Nat.le_of_ble_eq_true rfl) hsl) hH hS (fun v σa t0 H locs hp285 ht0 hvm hzz hH hS => ?_) (fun _ _ _ _ _ hz _ _ _ _ _ => by cases hz.1)
  obtain ⟨ho, hσ⟩ := hp285
  cases ho
  rw [hσ] at hH
  refine W.eq (g2 := F0 m 8 ls []) rfl ?_
  refine lv_aload_n x.1 x.2.1 dd_sg_state_8 rfl (lv_at hl 0 rfl) ?_
  refine lv_iload_n x.1 x.2.1 dd_sg_state_9 rfl (lv_at hl 1 rfl) ?_
  refine lv_iload_n x.1 x.2.1 dd_sg_state_10 rfl (lv_at hl 2 rfl) ?_
  refine mp_call x (wt_mv base) hG hB hl.1 (mp_invV (av := [.int (nI a0), .int (nI b0)]) x hH (la0 hL) rfl rfl mn_sg_deskOf mc_sg_deskOf (Or.inl ww_517) ww_519 ww_19 rfl dd_sg_state_11) (kk_G_deskOf (a0 := a0) (b0 := b0) hL (by omega) (by omega) hdx) (Nat.le_trans (Nat.le_of_ble_eq_true rfl) hfr) (Nat.le_trans (Nat.le_of_ble_eq_true rfl) hlo) (Nat.le_trans (Nat.le_of_ble_eq_true rfl) hce) (Nat.le_trans (Nat.le_of_ble_eq_true rfl) hsl) hH hS (fun v σa t0 H locs hp286 ht0 hvm hzz hH hS => ?_) (fun _ _ _ _ _ hz _ _ _ _ _ => by cases hz.1)
  obtain ⟨ho, hσ⟩ := hp286
  cases ho
  rw [hσ] at hH
  refine W.eq (g2 := F0 m 14 ls [.ref (ad 9 d)]) rfl ?_
  refine lv_astore_n (lv' := [(3, .ref (ad 9 d)), (0, .ref (ad 0 0)), (1, .int (nI a0)), (2, .int (nI b0))]) x.1 x.2.1 dd_sg_state_14 rfl hl (by decide) rfl (fun ls hl => ?_)
  refine lv_aload_n x.1 x.2.1 dd_sg_state_15 rfl (lv_at hl 0 rfl) ?_
  refine mp_get x hH (la9 hL hd) fg_sg_72 rfl dd_sg_state_16 ?_
  refine mp_call x (wt_mv base) hG hB hl.1 (mp_invV (av := []) x hH (la12 hL hd) rfl rfl mn_ak_runs mc_ak_runs (Or.inr ⟨_, ww_521⟩) ww_523 ww_20 rfl dd_sg_state_19) (kk_A_runs hL hd) (Nat.le_trans (Nat.le_of_ble_eq_true rfl) hfr) (Nat.le_trans (Nat.le_of_ble_eq_true rfl) hlo) (Nat.le_trans (Nat.le_of_ble_eq_true rfl) hce) (Nat.le_trans (Nat.le_of_ble_eq_true rfl) hsl) hH hS (fun v σa t0 H locs hp287 ht0 hvm hzz hH hS => ?_) (fun _ _ _ _ _ hz _ _ _ _ _ => by cases hz.1)
  obtain ⟨ho, hσ⟩ := hp287
  cases ho
  rw [hσ] at hH
  refine W.eq (g2 := F0 m 22 ls [.int (if V 39 d = 0 then nI 0 else nI 1)]) rfl ?_
  refine lv_if_eq (tgt := 27) x.1 x.2.1 dd_sg_state_22 (by decide) (fun c288 => ?_) (fun c288 => ?_)
  · refine lv_aload_n x.1 x.2.1 dd_sg_state_27 rfl (lv_at hl 0 rfl) ?_
    refine mp_get x hH (la9 hL hd) fg_sg_136 rfl dd_sg_state_28 ?_
    refine mp_get x hH (la10 hL hd) fg_sg_154 rfl dd_sg_state_31 ?_
    refine mn_top (w := nI nc) (hc) ?_
    refine lv_if_ne (tgt := 39) x.1 x.2.1 dd_sg_state_34 (by decide) (fun c289 => ?_) (fun c289 => ?_)
    · have c289 : ¬ (nc = 0) := fun h => c289 ((cv_eq (a := nc) (b := 0) (by omega) (by omega)).mpr h)
      refine lv_aload_n x.1 x.2.1 dd_sg_state_39 rfl (lv_at hl 0 rfl) ?_
      refine mp_get x hH (la9 hL hd) fg_sg_136 rfl dd_sg_state_40 ?_
      refine mp_call x (wt_mv base) hG hB hl.1 (mp_invV (av := []) x hH (la10 hL hd) rfl rfl mn_pr_last mc_pr_last (Or.inr ⟨_, ww_671⟩) ww_446 ww_6 rfl dd_sg_state_43) (kk_pr_last (nc := nc) hL hd (hc) (by omega)) (Nat.le_trans (Nat.le_of_ble_eq_true rfl) hfr) (Nat.le_trans (Nat.le_of_ble_eq_true rfl) hlo) (Nat.le_trans (Nat.le_of_ble_eq_true rfl) hce) (Nat.le_trans (Nat.le_of_ble_eq_true rfl) hsl) hH hS (fun v σa t0 H locs hp290 ht0 hvm hzz hH hS => ?_) (fun _ _ _ _ _ hz _ _ _ _ _ => by cases hz.1)
      obtain ⟨ho, hσ⟩ := hp290
      cases ho
      rw [hσ] at hH
      refine W.eq (g2 := F0 m 46 ls [.int (if nc = 0 then (-1) else V (100 + d) (nc - 1))]) rfl ?_
      refine mn_top (w := V (100 + d) (nc - 1)) (if_neg (by omega)) ?_
      refine mp_call x (wt_mv base) hG hB hl.1 (mp_invS (av := [.int (V (100 + d) (nc - 1))]) x mn_sg_shopOf mc_sg_shopOf (Or.inl ww_672) ww_661 ww_54 rfl dd_sg_state_46) (kk_sg_shopOf ) (Nat.le_trans (Nat.le_of_ble_eq_true rfl) hfr) (Nat.le_trans (Nat.le_of_ble_eq_true rfl) hlo) (Nat.le_trans (Nat.le_of_ble_eq_true rfl) hce) (Nat.le_trans (Nat.le_of_ble_eq_true rfl) hsl) hH hS (fun v σa t0 H locs hp291 ht0 hvm hzz hH hS => ?_) (fun _ _ _ _ _ hz _ _ _ _ _ => by cases hz.1)
      obtain ⟨ho, hσ⟩ := hp291
      cases ho
      rw [hσ] at hH
      refine W.eq (g2 := F0 m 49 ls [.int (sO (V (100 + d) (nc - 1)))]) rfl ?_
      refine lv_iload_n x.1 x.2.1 dd_sg_state_49 rfl (lv_at hl 2 rfl) ?_
      refine lv_icmp_ne (tgt := 57) x.1 x.2.1 dd_sg_state_50 (by decide) (fun c292 => ?_) (fun c292 => ?_)
      · refine lv_iconst (v := nI 3) x.1 x.2.1 dd_sg_state_57 (by decide +kernel) ?_
        exact mp_ri x hr hlk (by decide) (by decide) hH hS (fun _ => ⟨(congrArg (fun z => Outcome.returned (some (.int z))) (by rw [sst, if_neg (fun z => by rw [if_neg z] at c288; exact absurd c288 (by decide +kernel)), if_neg c289, if_neg c292])), hL⟩) dd_sg_state_58
      · refine lv_iconst (v := nI 2) x.1 x.2.1 dd_sg_state_53 (by decide +kernel) ?_
        refine lv_goto (tgt := 58) x.1 x.2.1 dd_sg_state_54 (by decide) ?_
        exact mp_ri x hr hlk (by decide) (by decide) hH hS (fun _ => ⟨(congrArg (fun z => Outcome.returned (some (.int z))) (by rw [sst, if_neg (fun z => by rw [if_neg z] at c288; exact absurd c288 (by decide +kernel)), if_neg c289, if_pos c292])), hL⟩) dd_sg_state_58
    · have c289 : nc = 0 := (cv_eq (a := nc) (b := 0) (by omega) (by omega)).mp c289
      refine lv_iconst (v := nI 0) x.1 x.2.1 dd_sg_state_37 (by decide +kernel) ?_
      exact mp_ri x hr hlk (by decide) (by decide) hH hS (fun _ => ⟨(congrArg (fun z => Outcome.returned (some (.int z))) (by rw [sst, if_neg (fun z => by rw [if_neg z] at c288; exact absurd c288 (by decide +kernel)), if_pos c289])), hL⟩) dd_sg_state_38
  · refine lv_iconst (v := nI 1) x.1 x.2.1 dd_sg_state_25 (by decide +kernel) ?_
    exact mp_ri x hr hlk (by decide) (by decide) hH hS (fun _ => ⟨(congrArg (fun z => Outcome.returned (some (.int z))) (by rw [sst, if_pos (fun z => c288 (if_pos z))])), hL⟩) dd_sg_state_26
def sgr (V : fV) (d j nc : Nat) : Int32 := if nc < j then (-1) else V (100 + d) (j - 1)
theorem sgr_e {V : fV} {d j nc : Nat} (hj : 1 ≤ j) : (if j = 0 ∨ nc < j then (-1) else V (100 + d) (j - 1)) = sgr V d j nc := by
  unfold sgr
  by_cases hz : nc < j
  · rw [if_pos hz, if_pos (Or.inr hz)]
  · rw [if_neg hz, if_neg (by omega)]
set_option maxRecDepth 100000 in
set_option maxHeartbeats 4000000 in
theorem kk_X_granted_00 {l : Launch} {D : va_G} {ar : Nat → ClassId} {base : Nat} {σ : mp_M} {ad : Nat → Nat → Nat} {rg : Nat → Bool} {pl : Nat → Nat} {V M : fV} {a0 b0 j d nc : Nat} (hL : Lay ar ad rg pl V M σ) (hfl : l.flags = flags0) (ha : a0 < 25) (hb : b0 < 20) (hj : 1 ≤ j) (hj2 : j ≤ 12) (hdx : dx rg a0 b0 = d) (hc : V 34 d = nI nc) (hc2 : nc ≤ 12) : CN l D ar base yy_sg_granted prog_1_method_14_code 6 (Option.some Jvm.ClassFile.FieldType.int) [] 7 96 6 36 [.ref (ad 0 0), .int (nI a0), .int (nI b0), .int (nI j), .int (nI 0)] σ (fun o σ' _ => o = .returned (some (.int (sO (sgr V d j nc)))) ∧ Lay ar ad rg pl V M σ') := by
  refine mp_in (Nat.le_of_ble_eq_true rfl) ?_
  intro p e R s m below meth c x hfr hlo hce hsl hr hlk hin hex hG hB ls H hH0 hH hS hl
  have hl : lv_has ls 6 [(0, .ref (ad 0 0)), (1, .int (nI a0)), (2, .int (nI b0)), (3, .int (nI j)), (4, .int (nI 0))] := hl
  have hd : dk rg d := hdx ▸ dx_dk ha hb
  have hd5 := dk_le hd
  refine lv_iload_n x.1 x.2.1 dd_sg_granted_0 rfl (lv_at hl 1 rfl) ?_
  refine mp_call x (wt_mv base) hG hB hl.1 (mp_invS (av := [.int (nI a0)]) x mn_sg_needShop mc_sg_needShop (Or.inl ww_425) ww_426 ww_54 rfl dd_sg_granted_1) (kk_G_shop_ok hfl (in_ok (by omega) (by decide))) (Nat.le_trans (Nat.le_of_ble_eq_true rfl) hfr) (Nat.le_trans (Nat.le_of_ble_eq_true rfl) hlo) (Nat.le_trans (Nat.le_of_ble_eq_true rfl) hce) (Nat.le_trans (Nat.le_of_ble_eq_true rfl) hsl) hH hS (fun v σa t0 H locs hp293 ht0 hvm hzz hH hS => ?_) (fun _ _ _ _ _ hz _ _ _ _ _ => by cases hz.1)
  obtain ⟨ho, hσ⟩ := hp293
  cases ho
  rw [hσ] at hH
  refine W.eq (g2 := F0 m 4 ls []) rfl ?_
  refine lv_iload_n x.1 x.2.1 dd_sg_granted_4 rfl (lv_at hl 2 rfl) ?_
  refine mp_call x (wt_mv base) hG hB hl.1 (mp_invS (av := [.int (nI b0)]) x mn_sg_needPrescription mc_sg_needPrescription (Or.inl ww_309) ww_310 ww_54 rfl dd_sg_granted_5) (kk_G_pres_ok hfl (in_ok (by omega) (by decide))) (Nat.le_trans (Nat.le_of_ble_eq_true rfl) hfr) (Nat.le_trans (Nat.le_of_ble_eq_true rfl) hlo) (Nat.le_trans (Nat.le_of_ble_eq_true rfl) hce) (Nat.le_trans (Nat.le_of_ble_eq_true rfl) hsl) hH hS (fun v σa t0 H locs hp294 ht0 hvm hzz hH hS => ?_) (fun _ _ _ _ _ hz _ _ _ _ _ => by cases hz.1)
  obtain ⟨ho, hσ⟩ := hp294
  cases ho
  rw [hσ] at hH
  refine W.eq (g2 := F0 m 8 ls []) rfl ?_
  refine lv_iload_n x.1 x.2.1 dd_sg_granted_8 rfl (lv_at hl 3 rfl) ?_
  refine lv_iconst (v := nI 1) x.1 x.2.1 dd_sg_granted_9 (by decide +kernel) ?_
  refine lv_bipush (v := nI 12) x.1 x.2.1 dd_sg_granted_10 (by decide +kernel) ?_
  refine mp_call x (wt_mv base) hG hB hl.1 (mp_invS (av := [.int (nI j), .int (nI 1), .int (nI 12)]) x mn_sg_needWithin mc_sg_needWithin (Or.inl ww_379) ww_380 ww_54 rfl dd_sg_granted_12) (kk_G_within_ok hfl (wi_ok (by omega) (by omega) (by decide))) (Nat.le_trans (Nat.le_of_ble_eq_true rfl) hfr) (Nat.le_trans (Nat.le_of_ble_eq_true rfl) hlo) (Nat.le_trans (Nat.le_of_ble_eq_true rfl) hce) (Nat.le_trans (Nat.le_of_ble_eq_true rfl) hsl) hH hS (fun v σa t0 H locs hp295 ht0 hvm hzz hH hS => ?_) (fun _ _ _ _ _ hz _ _ _ _ _ => by cases hz.1)
  obtain ⟨ho, hσ⟩ := hp295
  cases ho
  rw [hσ] at hH
  refine W.eq (g2 := F0 m 15 ls []) rfl ?_
  refine lv_aload_n x.1 x.2.1 dd_sg_granted_15 rfl (lv_at hl 0 rfl) ?_
  refine lv_iload_n x.1 x.2.1 dd_sg_granted_16 rfl (lv_at hl 1 rfl) ?_
  refine lv_iload_n x.1 x.2.1 dd_sg_granted_17 rfl (lv_at hl 2 rfl) ?_
  refine mp_call x (wt_mv base) hG hB hl.1 (mp_invV (av := [.int (nI a0), .int (nI b0)]) x hH (la0 hL) rfl rfl mn_sg_deskOf mc_sg_deskOf (Or.inl ww_517) ww_519 ww_19 rfl dd_sg_granted_18) (kk_G_deskOf (a0 := a0) (b0 := b0) hL (by omega) (by omega) hdx) (Nat.le_trans (Nat.le_of_ble_eq_true rfl) hfr) (Nat.le_trans (Nat.le_of_ble_eq_true rfl) hlo) (Nat.le_trans (Nat.le_of_ble_eq_true rfl) hce) (Nat.le_trans (Nat.le_of_ble_eq_true rfl) hsl) hH hS (fun v σa t0 H locs hp296 ht0 hvm hzz hH hS => ?_) (fun _ _ _ _ _ hz _ _ _ _ _ => by cases hz.1)
  obtain ⟨ho, hσ⟩ := hp296
  cases ho
  rw [hσ] at hH
  refine W.eq (g2 := F0 m 21 ls [.ref (ad 9 d)]) rfl ?_
  refine mp_get x hH (la9 hL hd) fg_sg_136 rfl dd_sg_granted_21 ?_
  refine lv_iload_n x.1 x.2.1 dd_sg_granted_24 rfl (lv_at hl 3 rfl) ?_
  refine mp_call x (wt_mv base) hG hB hl.1 (mp_invV (av := [.int (nI j)]) x hH (la10 hL hd) rfl rfl mn_pr_of mc_pr_of (Or.inr ⟨_, ww_680⟩) ww_450 ww_7 rfl dd_sg_granted_25) (kk_pr_ofd (j := j) (nc := nc) hL hd (hc) (by omega) (by omega)) (Nat.le_trans (Nat.le_of_ble_eq_true rfl) hfr) (Nat.le_trans (Nat.le_of_ble_eq_true rfl) hlo) (Nat.le_trans (Nat.le_of_ble_eq_true rfl) hce) (Nat.le_trans (Nat.le_of_ble_eq_true rfl) hsl) hH hS (fun v σa t0 H locs hp297 ht0 hvm hzz hH hS => ?_) (fun _ _ _ _ _ hz _ _ _ _ _ => by cases hz.1)
  obtain ⟨ho, hσ⟩ := hp297
  cases ho
  rw [hσ] at hH
  refine W.eq (g2 := F0 m 28 ls [.int (if j = 0 ∨ nc < j then (-1) else V (100 + d) (j - 1))]) rfl ?_
  refine mn_top (w := sgr V d j nc) (sgr_e hj) ?_
  refine lv_istore (lv' := [(5, .int (sgr V d j nc)), (0, .ref (ad 0 0)), (1, .int (nI a0)), (2, .int (nI b0)), (3, .int (nI j)), (4, .int (nI 0))]) x.1 x.2.1 dd_sg_granted_28 hl (by decide) rfl (fun ls hl => ?_)
  refine lv_iload x.1 x.2.1 dd_sg_granted_30 (lv_at hl 5 rfl) ?_
  refine lv_if_eq (tgt := 43) x.1 x.2.1 dd_sg_granted_32 (by decide) (fun c298 => ?_) (fun c298 => absurd (by decide +kernel) c298)
  refine lv_iload x.1 x.2.1 dd_sg_granted_43 (lv_at hl 0 rfl) ?_
  refine mp_call x (wt_mv base) hG hB hl.1 (mp_invS (av := [.int (sgr V d j nc)]) x mn_sg_shopOf mc_sg_shopOf (Or.inl ww_672) ww_661 ww_54 rfl dd_sg_granted_45) (kk_sg_shopOf ) (Nat.le_trans (Nat.le_of_ble_eq_true rfl) hfr) (Nat.le_trans (Nat.le_of_ble_eq_true rfl) hlo) (Nat.le_trans (Nat.le_of_ble_eq_true rfl) hce) (Nat.le_trans (Nat.le_of_ble_eq_true rfl) hsl) hH hS (fun v σa t0 H locs hp299 ht0 hvm hzz hH hS => ?_) (fun _ _ _ _ _ hz _ _ _ _ _ => by cases hz.1)
  obtain ⟨ho, hσ⟩ := hp299
  cases ho
  rw [hσ] at hH
  refine W.eq (g2 := F0 m 48 ls [.int (sO (sgr V d j nc))]) rfl ?_
  exact mp_ri x hr hlk (by decide) (by decide) hH hS (fun _ => ⟨rfl, hL⟩) dd_sg_granted_48
set_option maxRecDepth 100000 in
set_option maxHeartbeats 4000000 in
theorem kk_X_granted_01 {l : Launch} {D : va_G} {ar : Nat → ClassId} {base : Nat} {σ : mp_M} {ad : Nat → Nat → Nat} {rg : Nat → Bool} {pl : Nat → Nat} {V M : fV} {a0 b0 j d nc : Nat} (hL : Lay ar ad rg pl V M σ) (hfl : l.flags = flags0) (ha : a0 < 25) (hb : b0 < 20) (hj : 1 ≤ j) (hj2 : j ≤ 12) (hdx : dx rg a0 b0 = d) (hc : V 34 d = nI nc) (hc2 : nc ≤ 12) : CN l D ar base yy_sg_granted prog_1_method_14_code 6 (Option.some Jvm.ClassFile.FieldType.int) [] 7 96 6 36 [.ref (ad 0 0), .int (nI a0), .int (nI b0), .int (nI j), .int (nI 1)] σ (fun o σ' _ => o = .returned (some (.int (dO (sgr V d j nc)))) ∧ Lay ar ad rg pl V M σ') := by
  refine mp_in (Nat.le_of_ble_eq_true rfl) ?_
  intro p e R s m below meth c x hfr hlo hce hsl hr hlk hin hex hG hB ls H hH0 hH hS hl
  have hl : lv_has ls 6 [(0, .ref (ad 0 0)), (1, .int (nI a0)), (2, .int (nI b0)), (3, .int (nI j)), (4, .int (nI 1))] := hl
  have hd : dk rg d := hdx ▸ dx_dk ha hb
  have hd5 := dk_le hd
  refine lv_iload_n x.1 x.2.1 dd_sg_granted_0 rfl (lv_at hl 1 rfl) ?_
  refine mp_call x (wt_mv base) hG hB hl.1 (mp_invS (av := [.int (nI a0)]) x mn_sg_needShop mc_sg_needShop (Or.inl ww_425) ww_426 ww_54 rfl dd_sg_granted_1) (kk_G_shop_ok hfl (in_ok (by omega) (by decide))) (Nat.le_trans (Nat.le_of_ble_eq_true rfl) hfr) (Nat.le_trans (Nat.le_of_ble_eq_true rfl) hlo) (Nat.le_trans (Nat.le_of_ble_eq_true rfl) hce) (Nat.le_trans (Nat.le_of_ble_eq_true rfl) hsl) hH hS (fun v σa t0 H locs hp300 ht0 hvm hzz hH hS => ?_) (fun _ _ _ _ _ hz _ _ _ _ _ => by cases hz.1)
  obtain ⟨ho, hσ⟩ := hp300
  cases ho
  rw [hσ] at hH
  refine W.eq (g2 := F0 m 4 ls []) rfl ?_
  refine lv_iload_n x.1 x.2.1 dd_sg_granted_4 rfl (lv_at hl 2 rfl) ?_
  refine mp_call x (wt_mv base) hG hB hl.1 (mp_invS (av := [.int (nI b0)]) x mn_sg_needPrescription mc_sg_needPrescription (Or.inl ww_309) ww_310 ww_54 rfl dd_sg_granted_5) (kk_G_pres_ok hfl (in_ok (by omega) (by decide))) (Nat.le_trans (Nat.le_of_ble_eq_true rfl) hfr) (Nat.le_trans (Nat.le_of_ble_eq_true rfl) hlo) (Nat.le_trans (Nat.le_of_ble_eq_true rfl) hce) (Nat.le_trans (Nat.le_of_ble_eq_true rfl) hsl) hH hS (fun v σa t0 H locs hp301 ht0 hvm hzz hH hS => ?_) (fun _ _ _ _ _ hz _ _ _ _ _ => by cases hz.1)
  obtain ⟨ho, hσ⟩ := hp301
  cases ho
  rw [hσ] at hH
  refine W.eq (g2 := F0 m 8 ls []) rfl ?_
  refine lv_iload_n x.1 x.2.1 dd_sg_granted_8 rfl (lv_at hl 3 rfl) ?_
  refine lv_iconst (v := nI 1) x.1 x.2.1 dd_sg_granted_9 (by decide +kernel) ?_
  refine lv_bipush (v := nI 12) x.1 x.2.1 dd_sg_granted_10 (by decide +kernel) ?_
  refine mp_call x (wt_mv base) hG hB hl.1 (mp_invS (av := [.int (nI j), .int (nI 1), .int (nI 12)]) x mn_sg_needWithin mc_sg_needWithin (Or.inl ww_379) ww_380 ww_54 rfl dd_sg_granted_12) (kk_G_within_ok hfl (wi_ok (by omega) (by omega) (by decide))) (Nat.le_trans (Nat.le_of_ble_eq_true rfl) hfr) (Nat.le_trans (Nat.le_of_ble_eq_true rfl) hlo) (Nat.le_trans (Nat.le_of_ble_eq_true rfl) hce) (Nat.le_trans (Nat.le_of_ble_eq_true rfl) hsl) hH hS (fun v σa t0 H locs hp302 ht0 hvm hzz hH hS => ?_) (fun _ _ _ _ _ hz _ _ _ _ _ => by cases hz.1)
  obtain ⟨ho, hσ⟩ := hp302
  cases ho
  rw [hσ] at hH
  refine W.eq (g2 := F0 m 15 ls []) rfl ?_
  refine lv_aload_n x.1 x.2.1 dd_sg_granted_15 rfl (lv_at hl 0 rfl) ?_
  refine lv_iload_n x.1 x.2.1 dd_sg_granted_16 rfl (lv_at hl 1 rfl) ?_
  refine lv_iload_n x.1 x.2.1 dd_sg_granted_17 rfl (lv_at hl 2 rfl) ?_
  refine mp_call x (wt_mv base) hG hB hl.1 (mp_invV (av := [.int (nI a0), .int (nI b0)]) x hH (la0 hL) rfl rfl mn_sg_deskOf mc_sg_deskOf (Or.inl ww_517) ww_519 ww_19 rfl dd_sg_granted_18) (kk_G_deskOf (a0 := a0) (b0 := b0) hL (by omega) (by omega) hdx) (Nat.le_trans (Nat.le_of_ble_eq_true rfl) hfr) (Nat.le_trans (Nat.le_of_ble_eq_true rfl) hlo) (Nat.le_trans (Nat.le_of_ble_eq_true rfl) hce) (Nat.le_trans (Nat.le_of_ble_eq_true rfl) hsl) hH hS (fun v σa t0 H locs hp303 ht0 hvm hzz hH hS => ?_) (fun _ _ _ _ _ hz _ _ _ _ _ => by cases hz.1)
  obtain ⟨ho, hσ⟩ := hp303
  cases ho
  rw [hσ] at hH
  refine W.eq (g2 := F0 m 21 ls [.ref (ad 9 d)]) rfl ?_
  refine mp_get x hH (la9 hL hd) fg_sg_136 rfl dd_sg_granted_21 ?_
  refine lv_iload_n x.1 x.2.1 dd_sg_granted_24 rfl (lv_at hl 3 rfl) ?_
  refine mp_call x (wt_mv base) hG hB hl.1 (mp_invV (av := [.int (nI j)]) x hH (la10 hL hd) rfl rfl mn_pr_of mc_pr_of (Or.inr ⟨_, ww_680⟩) ww_450 ww_7 rfl dd_sg_granted_25) (kk_pr_ofd (j := j) (nc := nc) hL hd (hc) (by omega) (by omega)) (Nat.le_trans (Nat.le_of_ble_eq_true rfl) hfr) (Nat.le_trans (Nat.le_of_ble_eq_true rfl) hlo) (Nat.le_trans (Nat.le_of_ble_eq_true rfl) hce) (Nat.le_trans (Nat.le_of_ble_eq_true rfl) hsl) hH hS (fun v σa t0 H locs hp304 ht0 hvm hzz hH hS => ?_) (fun _ _ _ _ _ hz _ _ _ _ _ => by cases hz.1)
  obtain ⟨ho, hσ⟩ := hp304
  cases ho
  rw [hσ] at hH
  refine W.eq (g2 := F0 m 28 ls [.int (if j = 0 ∨ nc < j then (-1) else V (100 + d) (j - 1))]) rfl ?_
  refine mn_top (w := sgr V d j nc) (sgr_e hj) ?_
  refine lv_istore (lv' := [(5, .int (sgr V d j nc)), (0, .ref (ad 0 0)), (1, .int (nI a0)), (2, .int (nI b0)), (3, .int (nI j)), (4, .int (nI 1))]) x.1 x.2.1 dd_sg_granted_28 hl (by decide) rfl (fun ls hl => ?_)
  refine lv_iload x.1 x.2.1 dd_sg_granted_30 (lv_at hl 5 rfl) ?_
  refine lv_if_eq (tgt := 43) x.1 x.2.1 dd_sg_granted_32 (by decide) (fun c305 => absurd c305 (by decide +kernel)) (fun c305 => ?_)
  refine lv_iload x.1 x.2.1 dd_sg_granted_35 (lv_at hl 0 rfl) ?_
  refine mp_call x (wt_mv base) hG hB hl.1 (mp_invS (av := [.int (sgr V d j nc)]) x mn_sg_dayOf mc_sg_dayOf (Or.inl ww_681) ww_453 ww_54 rfl dd_sg_granted_37) (kk_sg_dayOf ) (Nat.le_trans (Nat.le_of_ble_eq_true rfl) hfr) (Nat.le_trans (Nat.le_of_ble_eq_true rfl) hlo) (Nat.le_trans (Nat.le_of_ble_eq_true rfl) hce) (Nat.le_trans (Nat.le_of_ble_eq_true rfl) hsl) hH hS (fun v σa t0 H locs hp306 ht0 hvm hzz hH hS => ?_) (fun _ _ _ _ _ hz _ _ _ _ _ => by cases hz.1)
  obtain ⟨ho, hσ⟩ := hp306
  cases ho
  rw [hσ] at hH
  refine W.eq (g2 := F0 m 40 ls [.int (dO (sgr V d j nc))]) rfl ?_
  refine lv_goto (tgt := 48) x.1 x.2.1 dd_sg_granted_40 (by decide) ?_
  exact mp_ri x hr hlk (by decide) (by decide) hH hS (fun _ => ⟨rfl, hL⟩) dd_sg_granted_48
set_option maxRecDepth 100000 in
set_option maxHeartbeats 4000000 in
theorem kk_X_kept_0 {l : Launch} {D : va_G} {ar : Nat → ClassId} {base : Nat} {σ : mp_M} {ad : Nat → Nat → Nat} {rg : Nat → Bool} {pl : Nat → Nat} {V M : fV} {a0 b0 j d : Nat} (hL : Lay ar ad rg pl V M σ) (hfl : l.flags = flags0) (ha : a0 < 25) (hb : b0 < 20) (hj : j < 9) (hdx : dx rg a0 b0 = d)  : CN l D ar base yy_sg_kept prog_1_method_15_code 4 (Option.some Jvm.ClassFile.FieldType.int) [] 7 96 6 36 [.ref (ad 0 0), .int (nI a0), .int (nI b0), .int (nI j)] σ (fun o σ' _ => o = .returned (some (.int (dpt V d j))) ∧ Lay ar ad rg pl V M σ') := by
  refine mp_in (Nat.le_of_ble_eq_true rfl) ?_
  intro p e R s m below meth c x hfr hlo hce hsl hr hlk hin hex hG hB ls H hH0 hH hS hl
  have hl : lv_has ls 4 [(0, .ref (ad 0 0)), (1, .int (nI a0)), (2, .int (nI b0)), (3, .int (nI j))] := hl
  have hd : dk rg d := hdx ▸ dx_dk ha hb
  have hd5 := dk_le hd
  refine lv_iload_n x.1 x.2.1 dd_sg_kept_0 rfl (lv_at hl 1 rfl) ?_
  refine mp_call x (wt_mv base) hG hB hl.1 (mp_invS (av := [.int (nI a0)]) x mn_sg_needShop mc_sg_needShop (Or.inl ww_425) ww_426 ww_54 rfl dd_sg_kept_1) (kk_G_shop_ok hfl (in_ok (by omega) (by decide))) (Nat.le_trans (Nat.le_of_ble_eq_true rfl) hfr) (Nat.le_trans (Nat.le_of_ble_eq_true rfl) hlo) (Nat.le_trans (Nat.le_of_ble_eq_true rfl) hce) (Nat.le_trans (Nat.le_of_ble_eq_true rfl) hsl) hH hS (fun v σa t0 H locs hp307 ht0 hvm hzz hH hS => ?_) (fun _ _ _ _ _ hz _ _ _ _ _ => by cases hz.1)
  obtain ⟨ho, hσ⟩ := hp307
  cases ho
  rw [hσ] at hH
  refine W.eq (g2 := F0 m 4 ls []) rfl ?_
  refine lv_iload_n x.1 x.2.1 dd_sg_kept_4 rfl (lv_at hl 2 rfl) ?_
  refine mp_call x (wt_mv base) hG hB hl.1 (mp_invS (av := [.int (nI b0)]) x mn_sg_needPrescription mc_sg_needPrescription (Or.inl ww_309) ww_310 ww_54 rfl dd_sg_kept_5) (kk_G_pres_ok hfl (in_ok (by omega) (by decide))) (Nat.le_trans (Nat.le_of_ble_eq_true rfl) hfr) (Nat.le_trans (Nat.le_of_ble_eq_true rfl) hlo) (Nat.le_trans (Nat.le_of_ble_eq_true rfl) hce) (Nat.le_trans (Nat.le_of_ble_eq_true rfl) hsl) hH hS (fun v σa t0 H locs hp308 ht0 hvm hzz hH hS => ?_) (fun _ _ _ _ _ hz _ _ _ _ _ => by cases hz.1)
  obtain ⟨ho, hσ⟩ := hp308
  cases ho
  rw [hσ] at hH
  refine W.eq (g2 := F0 m 8 ls []) rfl ?_
  refine lv_iload_n x.1 x.2.1 dd_sg_kept_8 rfl (lv_at hl 3 rfl) ?_
  refine lv_iconst (v := nI 0) x.1 x.2.1 dd_sg_kept_9 (by decide +kernel) ?_
  refine lv_bipush (v := nI 8) x.1 x.2.1 dd_sg_kept_10 (by decide +kernel) ?_
  refine mp_call x (wt_mv base) hG hB hl.1 (mp_invS (av := [.int (nI j), .int (nI 0), .int (nI 8)]) x mn_sg_needWithin mc_sg_needWithin (Or.inl ww_379) ww_380 ww_54 rfl dd_sg_kept_12) (kk_G_within_ok hfl (wi_ok (by omega) (by omega) (by decide))) (Nat.le_trans (Nat.le_of_ble_eq_true rfl) hfr) (Nat.le_trans (Nat.le_of_ble_eq_true rfl) hlo) (Nat.le_trans (Nat.le_of_ble_eq_true rfl) hce) (Nat.le_trans (Nat.le_of_ble_eq_true rfl) hsl) hH hS (fun v σa t0 H locs hp309 ht0 hvm hzz hH hS => ?_) (fun _ _ _ _ _ hz _ _ _ _ _ => by cases hz.1)
  obtain ⟨ho, hσ⟩ := hp309
  cases ho
  rw [hσ] at hH
  refine W.eq (g2 := F0 m 15 ls []) rfl ?_
  refine lv_aload_n x.1 x.2.1 dd_sg_kept_15 rfl (lv_at hl 0 rfl) ?_
  refine lv_iload_n x.1 x.2.1 dd_sg_kept_16 rfl (lv_at hl 1 rfl) ?_
  refine lv_iload_n x.1 x.2.1 dd_sg_kept_17 rfl (lv_at hl 2 rfl) ?_
  refine mp_call x (wt_mv base) hG hB hl.1 (mp_invV (av := [.int (nI a0), .int (nI b0)]) x hH (la0 hL) rfl rfl mn_sg_deskOf mc_sg_deskOf (Or.inl ww_517) ww_519 ww_19 rfl dd_sg_kept_18) (kk_G_deskOf (a0 := a0) (b0 := b0) hL (by omega) (by omega) hdx) (Nat.le_trans (Nat.le_of_ble_eq_true rfl) hfr) (Nat.le_trans (Nat.le_of_ble_eq_true rfl) hlo) (Nat.le_trans (Nat.le_of_ble_eq_true rfl) hce) (Nat.le_trans (Nat.le_of_ble_eq_true rfl) hsl) hH hS (fun v σa t0 H locs hp310 ht0 hvm hzz hH hS => ?_) (fun _ _ _ _ _ hz _ _ _ _ _ => by cases hz.1)
  obtain ⟨ho, hσ⟩ := hp310
  cases ho
  rw [hσ] at hH
  refine W.eq (g2 := F0 m 21 ls [.ref (ad 9 d)]) rfl ?_
  refine lv_iload_n x.1 x.2.1 dd_sg_kept_21 rfl (lv_at hl 3 rfl) ?_
  refine mp_call x (wt_mv base) hG hB hl.1 (mp_invV (av := [.int (nI j)]) x hH (la9 hL hd) rfl rfl mn_dk_part mc_dk_part (Or.inr ⟨_, ww_689⟩) ww_691 ww_40 rfl dd_sg_kept_22) (kk_D_part hL hd (by omega)) (Nat.le_trans (Nat.le_of_ble_eq_true rfl) hfr) (Nat.le_trans (Nat.le_of_ble_eq_true rfl) hlo) (Nat.le_trans (Nat.le_of_ble_eq_true rfl) hce) (Nat.le_trans (Nat.le_of_ble_eq_true rfl) hsl) hH hS (fun v σa t0 H locs hp311 ht0 hvm hzz hH hS => ?_) (fun _ _ _ _ _ hz _ _ _ _ _ => by cases hz.1)
  obtain ⟨ho, hσ⟩ := hp311
  cases ho
  rw [hσ] at hH
  refine W.eq (g2 := F0 m 25 ls [.int (dpt V d j)]) rfl ?_
  exact mp_ri x hr hlk (by decide) (by decide) hH hS (fun _ => ⟨rfl, hL⟩) dd_sg_kept_25
def slv (u : Int32) : Int32 := (if tec u = 0 then nI 0 else nI 1) + (if hwc u = 0 then nI 0 else nI 2)
set_option maxRecDepth 100000 in
set_option maxHeartbeats 4000000 in
theorem kk_X_live {l : Launch} {D : va_G} {ar : Nat → ClassId} {base : Nat} {σ : mp_M} {ad : Nat → Nat → Nat} {rg : Nat → Bool} {pl : Nat → Nat} {V M : fV}  (hL : Lay ar ad rg pl V M σ)  : CN l D ar base yy_sg_live prog_1_method_16_code 1 (Option.some Jvm.ClassFile.FieldType.int) [] 1 14 0 0 [.ref (ad 0 0)] σ (fun o σ' _ => o = .returned (some (.int (slv (V 59 0)))) ∧ Lay ar ad rg pl V M σ') := by
  refine mp_in (Nat.le_of_ble_eq_true rfl) ?_
  intro p e R s m below meth c x hfr hlo hce hsl hr hlk hin hex hG hB ls H hH0 hH hS hl
  have hl : lv_has ls 1 [(0, .ref (ad 0 0))] := hl
  refine lv_aload_n x.1 x.2.1 dd_sg_live_0 rfl (lv_at hl 0 rfl) ?_
  refine mp_get x hH (la0 hL) fg_sg_32 rfl dd_sg_live_1 ?_
  refine mp_call x (wt_mv base) hG hB hl.1 (mp_invS (av := [.int (V 59 0)]) x mn_sg_touchesEachColumn mc_sg_touchesEachColumn (Or.inl ww_293) ww_294 ww_54 rfl dd_sg_live_4) (kk_sg_touchesEachColumn ) (Nat.le_trans (Nat.le_of_ble_eq_true rfl) hfr) (Nat.le_trans (Nat.le_of_ble_eq_true rfl) hlo) (Nat.le_trans (Nat.le_of_ble_eq_true rfl) hce) (Nat.le_trans (Nat.le_of_ble_eq_true rfl) hsl) hH hS (fun v σa t0 H locs hp312 ht0 hvm hzz hH hS => ?_) (fun _ _ _ _ _ hz _ _ _ _ _ => by cases hz.1)
  obtain ⟨ho, hσ⟩ := hp312
  cases ho
  rw [hσ] at hH
  refine W.eq (g2 := F0 m 7 ls [.int (tec (V 59 0))]) rfl ?_
  refine lv_if_eq (tgt := 14) x.1 x.2.1 dd_sg_live_7 (by decide) (fun c313 => ?_) (fun c313 => ?_)
  · refine lv_iconst (v := nI 0) x.1 x.2.1 dd_sg_live_14 (by decide +kernel) ?_
    refine lv_aload_n x.1 x.2.1 dd_sg_live_15 rfl (lv_at hl 0 rfl) ?_
    refine mp_get x hH (la0 hL) fg_sg_32 rfl dd_sg_live_16 ?_
    refine mp_call x (wt_mv base) hG hB hl.1 (mp_invS (av := [.int (V 59 0)]) x mn_sg_holdsWholeColumn mc_sg_holdsWholeColumn (Or.inl ww_297) ww_298 ww_54 rfl dd_sg_live_19) (kk_sg_holdsWholeColumn ) (Nat.le_trans (Nat.le_of_ble_eq_true rfl) hfr) (Nat.le_trans (Nat.le_of_ble_eq_true rfl) hlo) (Nat.le_trans (Nat.le_of_ble_eq_true rfl) hce) (Nat.le_trans (Nat.le_of_ble_eq_true rfl) hsl) hH hS (fun v σa t0 H locs hp314 ht0 hvm hzz hH hS => ?_) (fun _ _ _ _ _ hz _ _ _ _ _ => by cases hz.1)
    obtain ⟨ho, hσ⟩ := hp314
    cases ho
    rw [hσ] at hH
    refine W.eq (g2 := F0 m 22 ls [.int (hwc (V 59 0)), .int (nI 0)]) rfl ?_
    refine lv_if_eq (tgt := 29) x.1 x.2.1 dd_sg_live_22 (by decide) (fun c315 => ?_) (fun c315 => ?_)
    · refine lv_iconst (v := nI 0) x.1 x.2.1 dd_sg_live_29 (by decide +kernel) ?_
      refine lv_iadd x.1 x.2.1 dd_sg_live_30 ?_
      refine mn_top (w := nI 0) (nI_add _ _) ?_
      exact mp_ri x hr hlk (by decide) (by decide) hH hS (fun _ => ⟨(congrArg (fun z => Outcome.returned (some (.int z))) (by rw [slv, if_pos c313, if_pos c315]; rfl)), hL⟩) dd_sg_live_31
    · refine lv_iconst (v := nI 2) x.1 x.2.1 dd_sg_live_25 (by decide +kernel) ?_
      refine lv_goto (tgt := 30) x.1 x.2.1 dd_sg_live_26 (by decide) ?_
      refine lv_iadd x.1 x.2.1 dd_sg_live_30 ?_
      refine mn_top (w := nI 2) (nI_add _ _) ?_
      exact mp_ri x hr hlk (by decide) (by decide) hH hS (fun _ => ⟨(congrArg (fun z => Outcome.returned (some (.int z))) (by rw [slv, if_pos c313, if_neg c315]; rfl)), hL⟩) dd_sg_live_31
  · refine lv_iconst (v := nI 1) x.1 x.2.1 dd_sg_live_10 (by decide +kernel) ?_
    refine lv_goto (tgt := 15) x.1 x.2.1 dd_sg_live_11 (by decide) ?_
    refine lv_aload_n x.1 x.2.1 dd_sg_live_15 rfl (lv_at hl 0 rfl) ?_
    refine mp_get x hH (la0 hL) fg_sg_32 rfl dd_sg_live_16 ?_
    refine mp_call x (wt_mv base) hG hB hl.1 (mp_invS (av := [.int (V 59 0)]) x mn_sg_holdsWholeColumn mc_sg_holdsWholeColumn (Or.inl ww_297) ww_298 ww_54 rfl dd_sg_live_19) (kk_sg_holdsWholeColumn ) (Nat.le_trans (Nat.le_of_ble_eq_true rfl) hfr) (Nat.le_trans (Nat.le_of_ble_eq_true rfl) hlo) (Nat.le_trans (Nat.le_of_ble_eq_true rfl) hce) (Nat.le_trans (Nat.le_of_ble_eq_true rfl) hsl) hH hS (fun v σa t0 H locs hp316 ht0 hvm hzz hH hS => ?_) (fun _ _ _ _ _ hz _ _ _ _ _ => by cases hz.1)
    obtain ⟨ho, hσ⟩ := hp316
    cases ho
    rw [hσ] at hH
    refine W.eq (g2 := F0 m 22 ls [.int (hwc (V 59 0)), .int (nI 1)]) rfl ?_
    refine lv_if_eq (tgt := 29) x.1 x.2.1 dd_sg_live_22 (by decide) (fun c317 => ?_) (fun c317 => ?_)
    · refine lv_iconst (v := nI 0) x.1 x.2.1 dd_sg_live_29 (by decide +kernel) ?_
      refine lv_iadd x.1 x.2.1 dd_sg_live_30 ?_
      refine mn_top (w := nI 1) (nI_add _ _) ?_
      exact mp_ri x hr hlk (by decide) (by decide) hH hS (fun _ => ⟨(congrArg (fun z => Outcome.returned (some (.int z))) (by rw [slv, if_neg c313, if_pos c317]; rfl)), hL⟩) dd_sg_live_31
    · refine lv_iconst (v := nI 2) x.1 x.2.1 dd_sg_live_25 (by decide +kernel) ?_
      refine lv_goto (tgt := 30) x.1 x.2.1 dd_sg_live_26 (by decide) ?_
      refine lv_iadd x.1 x.2.1 dd_sg_live_30 ?_
      refine mn_top (w := nI 3) (nI_add _ _) ?_
      exact mp_ri x hr hlk (by decide) (by decide) hH hS (fun _ => ⟨(congrArg (fun z => Outcome.returned (some (.int z))) (by rw [slv, if_neg c313, if_neg c317]; rfl)), hL⟩) dd_sg_live_31
def stt (V : fV) (j : Nat) : Int32 := if j = 0 then V 56 0 else if j = 1 then V 57 0 else V 58 0
set_option maxRecDepth 100000 in
set_option maxHeartbeats 4000000 in
theorem kk_X_total_0 {l : Launch} {D : va_G} {ar : Nat → ClassId} {base : Nat} {σ : mp_M} {ad : Nat → Nat → Nat} {rg : Nat → Bool} {pl : Nat → Nat} {V M : fV} {j : Nat} (hL : Lay ar ad rg pl V M σ) (hfl : l.flags = flags0) (hj : j < 3) : CN l D ar base yy_sg_total prog_1_method_17_code 2 (Option.some Jvm.ClassFile.FieldType.int) [] 7 96 6 36 [.ref (ad 0 0), .int (nI j)] σ (fun o σ' _ => o = .returned (some (.int (stt V j))) ∧ Lay ar ad rg pl V M σ') := by
  refine mp_in (Nat.le_of_ble_eq_true rfl) ?_
  intro p e R s m below meth c x hfr hlo hce hsl hr hlk hin hex hG hB ls H hH0 hH hS hl
  have hl : lv_has ls 2 [(0, .ref (ad 0 0)), (1, .int (nI j))] := hl
  refine lv_iload_n x.1 x.2.1 dd_sg_total_0 rfl (lv_at hl 1 rfl) ?_
  refine lv_iconst (v := nI 0) x.1 x.2.1 dd_sg_total_1 (by decide +kernel) ?_
  refine lv_iconst (v := nI 2) x.1 x.2.1 dd_sg_total_2 (by decide +kernel) ?_
  refine mp_call x (wt_mv base) hG hB hl.1 (mp_invS (av := [.int (nI j), .int (nI 0), .int (nI 2)]) x mn_sg_needWithin mc_sg_needWithin (Or.inl ww_379) ww_380 ww_54 rfl dd_sg_total_3) (kk_G_within_ok hfl (wi_ok (by omega) (by omega) (by decide))) (Nat.le_trans (Nat.le_of_ble_eq_true rfl) hfr) (Nat.le_trans (Nat.le_of_ble_eq_true rfl) hlo) (Nat.le_trans (Nat.le_of_ble_eq_true rfl) hce) (Nat.le_trans (Nat.le_of_ble_eq_true rfl) hsl) hH hS (fun v σa t0 H locs hp318 ht0 hvm hzz hH hS => ?_) (fun _ _ _ _ _ hz _ _ _ _ _ => by cases hz.1)
  obtain ⟨ho, hσ⟩ := hp318
  cases ho
  rw [hσ] at hH
  refine W.eq (g2 := F0 m 6 ls []) rfl ?_
  refine lv_iload_n x.1 x.2.1 dd_sg_total_6 rfl (lv_at hl 1 rfl) ?_
  refine lv_if_ne (tgt := 18) x.1 x.2.1 dd_sg_total_7 (by decide) (fun c319 => ?_) (fun c319 => ?_)
  · have c319 : ¬ (j = 0) := fun h => c319 ((cv_eq (a := j) (b := 0) (by omega) (by omega)).mpr h)
    refine lv_iload_n x.1 x.2.1 dd_sg_total_18 rfl (lv_at hl 1 rfl) ?_
    refine lv_iconst (v := nI 1) x.1 x.2.1 dd_sg_total_19 (by decide +kernel) ?_
    refine lv_icmp_ne (tgt := 33) x.1 x.2.1 dd_sg_total_20 (by decide) (fun c320 => ?_) (fun c320 => ?_)
    · have c320 : ¬ (j = 1) := fun h => c320 ((cv_eq (a := j) (b := 1) (by omega) (by omega)).mpr h)
      refine lv_aload_n x.1 x.2.1 dd_sg_total_33 rfl (lv_at hl 0 rfl) ?_
      refine mp_get x hH (la0 hL) fg_sg_27 rfl dd_sg_total_34 ?_
      refine mp_get x hH (la2 hL) fg_sg_184 rfl dd_sg_total_37 ?_
      exact mp_ri x hr hlk (by decide) (by decide) hH hS (fun _ => ⟨(congrArg (fun z => Outcome.returned (some (.int z))) (by rw [stt, if_neg c319, if_neg c320])), hL⟩) dd_sg_total_40
    · have c320 : j = 1 := (cv_eq (a := j) (b := 1) (by omega) (by omega)).mp c320
      refine lv_aload_n x.1 x.2.1 dd_sg_total_23 rfl (lv_at hl 0 rfl) ?_
      refine mp_get x hH (la0 hL) fg_sg_27 rfl dd_sg_total_24 ?_
      refine mp_get x hH (la2 hL) fg_sg_181 rfl dd_sg_total_27 ?_
      refine lv_goto (tgt := 40) x.1 x.2.1 dd_sg_total_30 (by decide) ?_
      exact mp_ri x hr hlk (by decide) (by decide) hH hS (fun _ => ⟨(congrArg (fun z => Outcome.returned (some (.int z))) (by rw [stt, if_neg c319, if_pos c320])), hL⟩) dd_sg_total_40
  · have c319 : j = 0 := (cv_eq (a := j) (b := 0) (by omega) (by omega)).mp c319
    refine lv_aload_n x.1 x.2.1 dd_sg_total_10 rfl (lv_at hl 0 rfl) ?_
    refine mp_get x hH (la0 hL) fg_sg_27 rfl dd_sg_total_11 ?_
    refine mp_get x hH (la2 hL) fg_sg_178 rfl dd_sg_total_14 ?_
    exact mp_ri x hr hlk (by decide) (by decide) hH hS (fun _ => ⟨(congrArg (fun z => Outcome.returned (some (.int z))) (by rw [stt, if_pos c319])), hL⟩) dd_sg_total_17
