/-! THE MODEL's handing over and its public methods. -/
theorem chd_v {M : fV} {i n k : Nat} (h : k < n) : chd M i n 23 k = M 21 (34 * i + k) := by
  induction n with
  | zero => omega
  | succ n ih =>
    by_cases h1 : k = n
    · subst h1; exact mu_s
    · exact (mu_i h1).trans (ih (by omega))
theorem mtk_23 {M : fV} {i n k : Nat} (h : k < 34) : mtk M i n 23 k = M 21 (34 * i + k) := by
  unfold mtk
  rw [slt_o (by decide), mu_k (by decide), chd_v h]
theorem mtk_22 {M : fV} {i n : Nat} : mtk M i n 22 0 = nI (n - 1) := by
  unfold mtk
  rw [slt_o (by decide), mu_s]
theorem mtk_o {M : fV} {i n k j : Nat} (h : k < 21 ∨ 23 < k) : mtk M i n k j = M k j := by
  unfold mtk
  rw [slt_o (by omega), mu_k (by omega), chd_o (by omega)]
noncomputable def mho (M : fV) (i n a dc n2 kd a0 b0 : Nat) : fV := if M 2 a0 = 0 then mcm (mtk M i n) (n - 1) a dc n2 kd a0 b0 else mu (mtk M i n) 25 0 (M 25 0 + nI 1)
set_option maxRecDepth 100000 in
set_option maxHeartbeats 4000000 in
theorem kk_M_handOver {l : Launch} {D : va_G} {ar : Nat → ClassId} {base : Nat} {σ : mp_M} {ad : Nat → Nat → Nat} {rg : Nat → Bool} {pl : Nat → Nat} {V M : fV} {i a0 b0 a n dc n2 kd : Nat} (hL : Lay ar ad rg pl V M σ) (hA : 20 * a0 + b0 = a) (ha : a0 < 25) (hb : b0 < 20) (hn : M 22 0 = nI n) (hn2 : n ≤ 100) (hdc : M 3 a = nI dc) (hdl : dc ≤ 12) (hi : i < n) (hl0 : M 21 (34 * i + 0) = nI kd) (hk1 : 1 ≤ kd) (hk2 : kd < 7) (hl2 : M 21 (34 * i + 2) = nI a0) (hl3 : M 21 (34 * i + 3) = nI b0) (hl9 : M 21 (34 * i + 9) = nI n2) (hn12 : n2 ≤ 12) (h12 : kd = 4 → ¬ mla (mtk M i n) a dc (n2 - dc) 11 a = 0 → mx dc n2 < 12) : CN l D ar base yy_md_handOver prog_9_method_21_code 3 (Option.some Jvm.ClassFile.FieldType.int) [] 4 76 0 0 [.ref (ad 13 0), .int (nI i)] σ (fun o σ' _ => o = .returned (some (.int (mho M i n a dc n2 kd a0 b0 26 0 - M 26 0))) ∧ Lay ar ad rg pl V (mho M i n a dc n2 kd a0 b0) σ') := by
  refine mp_in (Nat.le_of_ble_eq_true rfl) ?_
  intro p e R s m below meth c x hfr hlo hce hsl hr hlk hin hex hG hB ls H hH0 hH hS hl
  have hl : lv_has ls 3 [(0, .ref (ad 13 0)), (1, .int (nI i))] := hl
  refine lv_aload_n x.1 x.2.1 dd_md_handOver_0 rfl (lv_at hl 0 rfl) ?_
  refine mp_get x hH (la13 hL) fg_md_96 rfl dd_md_handOver_1 ?_
  refine lv_istore_n (lv' := [(2, .int (M 26 0)), (0, .ref (ad 13 0)), (1, .int (nI i))]) x.1 x.2.1 dd_md_handOver_4 rfl hl (by decide) rfl (fun ls hl => ?_)
  refine lv_aload_n x.1 x.2.1 dd_md_handOver_5 rfl (lv_at hl 1 rfl) ?_
  refine lv_iload_n x.1 x.2.1 dd_md_handOver_6 rfl (lv_at hl 2 rfl) ?_
  refine mp_call x (wt_mv base) hG hB hl.1 (mp_invV (av := [.int (nI i)]) x hH (la13 hL) rfl rfl mn_md_take mc_md_take (Or.inl ww_853) ww_855 ww_46 rfl dd_md_handOver_7) (kk_M_take (i := i) (n := n) hL (hn) (by omega) (by omega)) (Nat.le_trans (Nat.le_of_ble_eq_true rfl) hfr) (Nat.le_trans (Nat.le_of_ble_eq_true rfl) hlo) (Nat.le_trans (Nat.le_of_ble_eq_true rfl) hce) (Nat.le_trans (Nat.le_of_ble_eq_true rfl) hsl) hH hS (fun v σa t0 H locs hp452 ht0 hvm hzz hH hS => ?_) (fun _ _ _ _ _ hz _ _ _ _ _ => by cases hz.1)
  obtain ⟨ho, hL⟩ := hp452
  cases ho
  refine W.eq (g2 := F0 m 10 ls []) rfl ?_
  refine lv_aload_n x.1 x.2.1 dd_md_handOver_10 rfl (lv_at hl 1 rfl) ?_
  refine mp_get x hH (la13 hL) fg_md_16 rfl dd_md_handOver_11 ?_
  refine lv_aload_n x.1 x.2.1 dd_md_handOver_14 rfl (lv_at hl 1 rfl) ?_
  refine mp_get x hH (la13 hL) fg_md_77 rfl dd_md_handOver_15 ?_
  refine lv_iconst (v := nI 2) x.1 x.2.1 dd_md_handOver_18 (by decide +kernel) ?_
  refine ka_ld x hH hL 23 (j := 2) (by decide) (by decide) (show 2 < 34 from (by omega)) (by decide) dd_md_handOver_19 ?_
  refine mn_top (w := nI a0) ((mtk_23 (by decide)).trans hl2) ?_
  refine kz_ld x hH hL (j := a0) (by omega) dd_md_handOver_20 ?_
  refine mn_top (w := M 2 a0) (mtk_o (by decide)) ?_
  refine lv_if_eq (tgt := 37) x.1 x.2.1 dd_md_handOver_21 (by decide) (fun c453 => ?_) (fun c453 => ?_)
  · refine lv_aload_n x.1 x.2.1 dd_md_handOver_37 rfl (lv_at hl 1 rfl) ?_
    refine mp_call x (wt_mv base) hG hB hl.1 (mp_invV (av := []) x hH (la13 hL) rfl rfl mn_md_comes mc_md_comes (Or.inl ww_857) ww_859 ww_47 rfl dd_md_handOver_38) (kk_M_comes (a := a) (n := n - 1) (dc := dc) (n2 := n2) (kd := kd) hL hA ha hb mtk_22 (by omega) ((mtk_o (by decide)).trans hdc) hdl ((mtk_23 (by decide)).trans hl0) hk1 hk2 ((mtk_23 (by decide)).trans hl2) ((mtk_23 (by decide)).trans hl3) ((mtk_23 (by decide)).trans hl9) hn12 h12) (Nat.le_trans (Nat.le_of_ble_eq_true rfl) hfr) (Nat.le_trans (Nat.le_of_ble_eq_true rfl) hlo) (Nat.le_trans (Nat.le_of_ble_eq_true rfl) hce) (Nat.le_trans (Nat.le_of_ble_eq_true rfl) hsl) hH hS (fun v σa t0 H locs hp454 ht0 hvm hzz hH hS => ?_) (fun _ _ _ _ _ hz _ _ _ _ _ => by cases hz.1)
    obtain ⟨ho, hL⟩ := hp454
    cases ho
    refine W.eq (g2 := F0 m 41 ls []) rfl ?_
    refine lv_aload_n x.1 x.2.1 dd_md_handOver_41 rfl (lv_at hl 1 rfl) ?_
    refine mp_get x hH (la13 hL) fg_md_96 rfl dd_md_handOver_42 ?_
    refine lv_iload_n x.1 x.2.1 dd_md_handOver_45 rfl (lv_at hl 0 rfl) ?_
    refine lv_isub x.1 x.2.1 dd_md_handOver_46 ?_
    exact mp_ri x hr hlk (by decide) (by decide) hH hS (fun _ => ⟨(congrArg (fun z => Outcome.returned (some (.int z))) (by unfold mho; rw [if_pos c453])), by unfold mho; rw [if_pos c453]; exact hL⟩) dd_md_handOver_47
  · refine lv_aload_n x.1 x.2.1 dd_md_handOver_24 rfl (lv_at hl 1 rfl) ?_
    refine lv_dup x.1 x.2.1 dd_md_handOver_25 rfl ?_
    refine mp_get x hH (la13 hL) fg_md_144 rfl dd_md_handOver_26 ?_
    refine mn_top (w := M 25 0) (mtk_o (by decide)) ?_
    refine lv_iconst (v := nI 1) x.1 x.2.1 dd_md_handOver_29 (by decide +kernel) ?_
    refine lv_iadd x.1 x.2.1 dd_md_handOver_30 ?_
    refine kp_25 x hH hS hL fp_md_144 dd_md_handOver_31 (fun σ hL H locs hH hS => ?_)
    refine lv_goto (tgt := 41) x.1 x.2.1 dd_md_handOver_34 (by decide) ?_
    refine lv_aload_n x.1 x.2.1 dd_md_handOver_41 rfl (lv_at hl 1 rfl) ?_
    refine mp_get x hH (la13 hL) fg_md_96 rfl dd_md_handOver_42 ?_
    refine mn_top (w := M 26 0) ((mu_k (by decide)).trans (mtk_o (by decide))) ?_
    refine lv_iload_n x.1 x.2.1 dd_md_handOver_45 rfl (lv_at hl 0 rfl) ?_
    refine lv_isub x.1 x.2.1 dd_md_handOver_46 ?_
    exact mp_ri x hr hlk (by decide) (by decide) hH hS (fun _ => ⟨(congrArg (fun z => Outcome.returned (some (.int z))) (by unfold mho; rw [if_neg c453, mu_k (by decide), mtk_o (by decide)])), by unfold mho; rw [if_neg c453]; exact hL⟩) dd_md_handOver_47
set_option maxRecDepth 100000 in
set_option maxHeartbeats 4000000 in
theorem kk_MX_register_1 {l : Launch} {D : va_G} {ar : Nat → ClassId} {base : Nat} {σ : mp_M} {ad : Nat → Nat → Nat} {rg : Nat → Bool} {pl : Nat → Nat} {V M : fV} {k0 k1 k2 : Int32} (hL : Lay ar ad rg pl V M σ) (hQ : (k0 < 0 ∨ nI 20 ≤ k0) ∨ (k1 - nI 1 < 0 ∨ nI 12 ≤ k1 - nI 1) ∨ (k2 < 0 ∨ nI 91 ≤ k2)) : CN l D ar base yy_md_register prog_9_method_8_code 4 (Option.none : Option Jvm.ClassFile.FieldType) [] 2 26 0 0 [.ref (ad 13 0), .int k0, .int k1, .int k2] σ (fun o σ' _ => o = .returned none ∧ Lay ar ad rg pl V (mu M 27 0 (nI 1)) σ') := by
  refine mp_in (Nat.le_of_ble_eq_true rfl) ?_
  intro p e R s m below meth c x hfr hlo hce hsl hr hlk hin hex hG hB ls H hH0 hH hS hl
  have hl : lv_has ls 4 [(0, .ref (ad 13 0)), (1, .int k0), (2, .int k1), (3, .int k2)] := hl
  refine lv_aload_n x.1 x.2.1 dd_md_register_0 rfl (lv_at hl 0 rfl) ?_
  refine lv_iload_n x.1 x.2.1 dd_md_register_1 rfl (lv_at hl 1 rfl) ?_
  by_cases hq0 : k0 < 0 ∨ nI 20 ≤ k0
  · skip
    refine mp_call x (wt_mv base) hG hB hl.1 (mp_invS (av := [.int k0]) x mn_md_isPrescription mc_md_isPrescription (Or.inl ww_808) ww_809 ww_60 rfl dd_md_register_2) (kk_M_isPrescription_no hq0) (Nat.le_trans (Nat.le_of_ble_eq_true rfl) hfr) (Nat.le_trans (Nat.le_of_ble_eq_true rfl) hlo) (Nat.le_trans (Nat.le_of_ble_eq_true rfl) hce) (Nat.le_trans (Nat.le_of_ble_eq_true rfl) hsl) hH hS (fun v σa t0 H locs hp455 ht0 hvm hzz hH hS => ?_) (fun _ _ _ _ _ hz _ _ _ _ _ => by cases hz.1)
    obtain ⟨ho, hσ⟩ := hp455
    cases ho
    rw [hσ] at hH
    refine W.eq (g2 := F0 m 5 ls [.int (nI 0), .ref (ad 13 0)]) rfl ?_
    refine lv_if_eq (tgt := 28) x.1 x.2.1 dd_md_register_5 (by decide) (fun c456 => ?_) (fun c456 => absurd (by decide +kernel) c456)
    refine lv_iconst (v := nI 1) x.1 x.2.1 dd_md_register_28 (by decide +kernel) ?_
    refine lv_goto (tgt := 33) x.1 x.2.1 dd_md_register_29 (by decide) ?_
    refine lv_iconst (v := nI 1) x.1 x.2.1 dd_md_register_33 (by decide +kernel) ?_
    refine mp_call x (wt_mv base) hG hB hl.1 (mp_invV (av := [.int (nI 1), .int (nI 1)]) x hH (la13 hL) rfl rfl mn_md_fails mc_md_fails (Or.inl ww_814) ww_816 ww_41 rfl dd_md_register_34) (kk_M_fails1 hL) (Nat.le_trans (Nat.le_of_ble_eq_true rfl) hfr) (Nat.le_trans (Nat.le_of_ble_eq_true rfl) hlo) (Nat.le_trans (Nat.le_of_ble_eq_true rfl) hce) (Nat.le_trans (Nat.le_of_ble_eq_true rfl) hsl) hH hS (fun v σa t0 H locs hp457 ht0 hvm hzz hH hS => ?_) (fun _ _ _ _ _ hz _ _ _ _ _ => by cases hz.1)
    obtain ⟨ho, hL⟩ := hp457
    cases ho
    refine W.eq (g2 := F0 m 37 ls [.int (nI 1)]) rfl ?_
    refine lv_if_ne (tgt := 62) x.1 x.2.1 dd_md_register_37 (by decide) (fun c458 => ?_) (fun c458 => absurd c458 (by decide +kernel))
    exact mp_rv x hr hlk (by decide) (by decide) hH hS (fun _ => ⟨rfl, hL⟩) dd_md_register_62
  · skip
    refine mp_call x (wt_mv base) hG hB hl.1 (mp_invS (av := [.int k0]) x mn_md_isPrescription mc_md_isPrescription (Or.inl ww_808) ww_809 ww_60 rfl dd_md_register_2) (kk_M_isPrescription_ok hq0) (Nat.le_trans (Nat.le_of_ble_eq_true rfl) hfr) (Nat.le_trans (Nat.le_of_ble_eq_true rfl) hlo) (Nat.le_trans (Nat.le_of_ble_eq_true rfl) hce) (Nat.le_trans (Nat.le_of_ble_eq_true rfl) hsl) hH hS (fun v σa t0 H locs hp459 ht0 hvm hzz hH hS => ?_) (fun _ _ _ _ _ hz _ _ _ _ _ => by cases hz.1)
    obtain ⟨ho, hσ⟩ := hp459
    cases ho
    rw [hσ] at hH
    refine W.eq (g2 := F0 m 5 ls [.int (nI 1), .ref (ad 13 0)]) rfl ?_
    refine lv_if_eq (tgt := 28) x.1 x.2.1 dd_md_register_5 (by decide) (fun c460 => absurd c460 (by decide +kernel)) (fun c460 => ?_)
    refine lv_iload_n x.1 x.2.1 dd_md_register_8 rfl (lv_at hl 2 rfl) ?_
    refine lv_iconst (v := nI 1) x.1 x.2.1 dd_md_register_9 (by decide +kernel) ?_
    refine lv_isub x.1 x.2.1 dd_md_register_10 ?_
    refine lv_bipush (v := nI 12) x.1 x.2.1 dd_md_register_11 (by decide +kernel) ?_
    by_cases hq1 : k1 - nI 1 < 0 ∨ nI 12 ≤ k1 - nI 1
    · skip
      refine mp_call x (wt_mv base) hG hB hl.1 (mp_invS (av := [.int (k1 - (nI 1)), .int (nI 12)]) x mn_md_within mc_md_within (Or.inl ww_811) ww_812 ww_60 rfl dd_md_register_13) (kk_M_within_no hq1) (Nat.le_trans (Nat.le_of_ble_eq_true rfl) hfr) (Nat.le_trans (Nat.le_of_ble_eq_true rfl) hlo) (Nat.le_trans (Nat.le_of_ble_eq_true rfl) hce) (Nat.le_trans (Nat.le_of_ble_eq_true rfl) hsl) hH hS (fun v σa t0 H locs hp461 ht0 hvm hzz hH hS => ?_) (fun _ _ _ _ _ hz _ _ _ _ _ => by cases hz.1)
      obtain ⟨ho, hσ⟩ := hp461
      cases ho
      rw [hσ] at hH
      refine W.eq (g2 := F0 m 16 ls [.int (nI 0), .ref (ad 13 0)]) rfl ?_
      refine lv_if_eq (tgt := 28) x.1 x.2.1 dd_md_register_16 (by decide) (fun c462 => ?_) (fun c462 => absurd (by decide +kernel) c462)
      refine lv_iconst (v := nI 1) x.1 x.2.1 dd_md_register_28 (by decide +kernel) ?_
      refine lv_goto (tgt := 33) x.1 x.2.1 dd_md_register_29 (by decide) ?_
      refine lv_iconst (v := nI 1) x.1 x.2.1 dd_md_register_33 (by decide +kernel) ?_
      refine mp_call x (wt_mv base) hG hB hl.1 (mp_invV (av := [.int (nI 1), .int (nI 1)]) x hH (la13 hL) rfl rfl mn_md_fails mc_md_fails (Or.inl ww_814) ww_816 ww_41 rfl dd_md_register_34) (kk_M_fails1 hL) (Nat.le_trans (Nat.le_of_ble_eq_true rfl) hfr) (Nat.le_trans (Nat.le_of_ble_eq_true rfl) hlo) (Nat.le_trans (Nat.le_of_ble_eq_true rfl) hce) (Nat.le_trans (Nat.le_of_ble_eq_true rfl) hsl) hH hS (fun v σa t0 H locs hp463 ht0 hvm hzz hH hS => ?_) (fun _ _ _ _ _ hz _ _ _ _ _ => by cases hz.1)
      obtain ⟨ho, hL⟩ := hp463
      cases ho
      refine W.eq (g2 := F0 m 37 ls [.int (nI 1)]) rfl ?_
      refine lv_if_ne (tgt := 62) x.1 x.2.1 dd_md_register_37 (by decide) (fun c464 => ?_) (fun c464 => absurd c464 (by decide +kernel))
      exact mp_rv x hr hlk (by decide) (by decide) hH hS (fun _ => ⟨rfl, hL⟩) dd_md_register_62
    · skip
      refine mp_call x (wt_mv base) hG hB hl.1 (mp_invS (av := [.int (k1 - (nI 1)), .int (nI 12)]) x mn_md_within mc_md_within (Or.inl ww_811) ww_812 ww_60 rfl dd_md_register_13) (kk_M_within_ok hq1) (Nat.le_trans (Nat.le_of_ble_eq_true rfl) hfr) (Nat.le_trans (Nat.le_of_ble_eq_true rfl) hlo) (Nat.le_trans (Nat.le_of_ble_eq_true rfl) hce) (Nat.le_trans (Nat.le_of_ble_eq_true rfl) hsl) hH hS (fun v σa t0 H locs hp465 ht0 hvm hzz hH hS => ?_) (fun _ _ _ _ _ hz _ _ _ _ _ => by cases hz.1)
      obtain ⟨ho, hσ⟩ := hp465
      cases ho
      rw [hσ] at hH
      refine W.eq (g2 := F0 m 16 ls [.int (nI 1), .ref (ad 13 0)]) rfl ?_
      refine lv_if_eq (tgt := 28) x.1 x.2.1 dd_md_register_16 (by decide) (fun c466 => absurd c466 (by decide +kernel)) (fun c466 => ?_)
      refine lv_iload_n x.1 x.2.1 dd_md_register_19 rfl (lv_at hl 3 rfl) ?_
      refine lv_bipush (v := nI 91) x.1 x.2.1 dd_md_register_20 (by decide +kernel) ?_
      by_cases hq2 : k2 < 0 ∨ nI 91 ≤ k2
      · skip
        refine mp_call x (wt_mv base) hG hB hl.1 (mp_invS (av := [.int k2, .int (nI 91)]) x mn_md_within mc_md_within (Or.inl ww_811) ww_812 ww_60 rfl dd_md_register_22) (kk_M_within_no hq2) (Nat.le_trans (Nat.le_of_ble_eq_true rfl) hfr) (Nat.le_trans (Nat.le_of_ble_eq_true rfl) hlo) (Nat.le_trans (Nat.le_of_ble_eq_true rfl) hce) (Nat.le_trans (Nat.le_of_ble_eq_true rfl) hsl) hH hS (fun v σa t0 H locs hp467 ht0 hvm hzz hH hS => ?_) (fun _ _ _ _ _ hz _ _ _ _ _ => by cases hz.1)
        obtain ⟨ho, hσ⟩ := hp467
        cases ho
        rw [hσ] at hH
        refine W.eq (g2 := F0 m 25 ls [.int (nI 0), .ref (ad 13 0)]) rfl ?_
        refine lv_if_ne (tgt := 32) x.1 x.2.1 dd_md_register_25 (by decide) (fun c468 => absurd (by decide +kernel) c468) (fun c468 => ?_)
        refine lv_iconst (v := nI 1) x.1 x.2.1 dd_md_register_28 (by decide +kernel) ?_
        refine lv_goto (tgt := 33) x.1 x.2.1 dd_md_register_29 (by decide) ?_
        refine lv_iconst (v := nI 1) x.1 x.2.1 dd_md_register_33 (by decide +kernel) ?_
        refine mp_call x (wt_mv base) hG hB hl.1 (mp_invV (av := [.int (nI 1), .int (nI 1)]) x hH (la13 hL) rfl rfl mn_md_fails mc_md_fails (Or.inl ww_814) ww_816 ww_41 rfl dd_md_register_34) (kk_M_fails1 hL) (Nat.le_trans (Nat.le_of_ble_eq_true rfl) hfr) (Nat.le_trans (Nat.le_of_ble_eq_true rfl) hlo) (Nat.le_trans (Nat.le_of_ble_eq_true rfl) hce) (Nat.le_trans (Nat.le_of_ble_eq_true rfl) hsl) hH hS (fun v σa t0 H locs hp469 ht0 hvm hzz hH hS => ?_) (fun _ _ _ _ _ hz _ _ _ _ _ => by cases hz.1)
        obtain ⟨ho, hL⟩ := hp469
        cases ho
        refine W.eq (g2 := F0 m 37 ls [.int (nI 1)]) rfl ?_
        refine lv_if_ne (tgt := 62) x.1 x.2.1 dd_md_register_37 (by decide) (fun c470 => ?_) (fun c470 => absurd c470 (by decide +kernel))
        exact mp_rv x hr hlk (by decide) (by decide) hH hS (fun _ => ⟨rfl, hL⟩) dd_md_register_62
      · skip
        exact (hQ.elim hq0 (fun z => z.elim hq1 hq2)).elim
set_option maxRecDepth 100000 in
set_option maxHeartbeats 4000000 in
theorem kk_MX_ask_1 {l : Launch} {D : va_G} {ar : Nat → ClassId} {base : Nat} {σ : mp_M} {ad : Nat → Nat → Nat} {rg : Nat → Bool} {pl : Nat → Nat} {V M : fV} {k0 k1 k2 : Int32} (hL : Lay ar ad rg pl V M σ) (hQ : (k0 < 0 ∨ nI 25 ≤ k0) ∨ (k1 < 0 ∨ nI 20 ≤ k1) ∨ (k2 < 0 ∨ nI 100001 ≤ k2)) : CN l D ar base yy_md_ask prog_9_method_14_code 6 (Option.some Jvm.ClassFile.FieldType.int) [] 2 26 0 0 [.ref (ad 13 0), .int k0, .int k1, .int k2] σ (fun o σ' _ => o = .returned (some (.int (nI 0))) ∧ Lay ar ad rg pl V (mu M 27 0 (nI 1)) σ') := by
  refine mp_in (Nat.le_of_ble_eq_true rfl) ?_
  intro p e R s m below meth c x hfr hlo hce hsl hr hlk hin hex hG hB ls H hH0 hH hS hl
  have hl : lv_has ls 6 [(0, .ref (ad 13 0)), (1, .int k0), (2, .int k1), (3, .int k2)] := hl
  refine lv_aload_n x.1 x.2.1 dd_md_ask_0 rfl (lv_at hl 0 rfl) ?_
  refine lv_iload_n x.1 x.2.1 dd_md_ask_1 rfl (lv_at hl 1 rfl) ?_
  by_cases hq0 : k0 < 0 ∨ nI 25 ≤ k0
  · skip
    refine mp_call x (wt_mv base) hG hB hl.1 (mp_invS (av := [.int k0]) x mn_md_isShop mc_md_isShop (Or.inl ww_822) ww_823 ww_60 rfl dd_md_ask_2) (kk_M_isShop_no hq0) (Nat.le_trans (Nat.le_of_ble_eq_true rfl) hfr) (Nat.le_trans (Nat.le_of_ble_eq_true rfl) hlo) (Nat.le_trans (Nat.le_of_ble_eq_true rfl) hce) (Nat.le_trans (Nat.le_of_ble_eq_true rfl) hsl) hH hS (fun v σa t0 H locs hp471 ht0 hvm hzz hH hS => ?_) (fun _ _ _ _ _ hz _ _ _ _ _ => by cases hz.1)
    obtain ⟨ho, hσ⟩ := hp471
    cases ho
    rw [hσ] at hH
    refine W.eq (g2 := F0 m 5 ls [.int (nI 0), .ref (ad 13 0)]) rfl ?_
    refine lv_if_eq (tgt := 24) x.1 x.2.1 dd_md_ask_5 (by decide) (fun c472 => ?_) (fun c472 => absurd (by decide +kernel) c472)
    refine lv_iconst (v := nI 1) x.1 x.2.1 dd_md_ask_24 (by decide +kernel) ?_
    refine lv_goto (tgt := 29) x.1 x.2.1 dd_md_ask_25 (by decide) ?_
    refine lv_iconst (v := nI 1) x.1 x.2.1 dd_md_ask_29 (by decide +kernel) ?_
    refine mp_call x (wt_mv base) hG hB hl.1 (mp_invV (av := [.int (nI 1), .int (nI 1)]) x hH (la13 hL) rfl rfl mn_md_fails mc_md_fails (Or.inl ww_814) ww_816 ww_41 rfl dd_md_ask_30) (kk_M_fails1 hL) (Nat.le_trans (Nat.le_of_ble_eq_true rfl) hfr) (Nat.le_trans (Nat.le_of_ble_eq_true rfl) hlo) (Nat.le_trans (Nat.le_of_ble_eq_true rfl) hce) (Nat.le_trans (Nat.le_of_ble_eq_true rfl) hsl) hH hS (fun v σa t0 H locs hp473 ht0 hvm hzz hH hS => ?_) (fun _ _ _ _ _ hz _ _ _ _ _ => by cases hz.1)
    obtain ⟨ho, hL⟩ := hp473
    cases ho
    refine W.eq (g2 := F0 m 33 ls [.int (nI 1)]) rfl ?_
    refine lv_if_eq (tgt := 38) x.1 x.2.1 dd_md_ask_33 (by decide) (fun c474 => absurd c474 (by decide +kernel)) (fun c474 => ?_)
    refine lv_iconst (v := nI 0) x.1 x.2.1 dd_md_ask_36 (by decide +kernel) ?_
    exact mp_ri x hr hlk (by decide) (by decide) hH hS (fun _ => ⟨rfl, hL⟩) dd_md_ask_37
  · skip
    refine mp_call x (wt_mv base) hG hB hl.1 (mp_invS (av := [.int k0]) x mn_md_isShop mc_md_isShop (Or.inl ww_822) ww_823 ww_60 rfl dd_md_ask_2) (kk_M_isShop_ok hq0) (Nat.le_trans (Nat.le_of_ble_eq_true rfl) hfr) (Nat.le_trans (Nat.le_of_ble_eq_true rfl) hlo) (Nat.le_trans (Nat.le_of_ble_eq_true rfl) hce) (Nat.le_trans (Nat.le_of_ble_eq_true rfl) hsl) hH hS (fun v σa t0 H locs hp475 ht0 hvm hzz hH hS => ?_) (fun _ _ _ _ _ hz _ _ _ _ _ => by cases hz.1)
    obtain ⟨ho, hσ⟩ := hp475
    cases ho
    rw [hσ] at hH
    refine W.eq (g2 := F0 m 5 ls [.int (nI 1), .ref (ad 13 0)]) rfl ?_
    refine lv_if_eq (tgt := 24) x.1 x.2.1 dd_md_ask_5 (by decide) (fun c476 => absurd c476 (by decide +kernel)) (fun c476 => ?_)
    refine lv_iload_n x.1 x.2.1 dd_md_ask_8 rfl (lv_at hl 2 rfl) ?_
    by_cases hq1 : k1 < 0 ∨ nI 20 ≤ k1
    · skip
      refine mp_call x (wt_mv base) hG hB hl.1 (mp_invS (av := [.int k1]) x mn_md_isPrescription mc_md_isPrescription (Or.inl ww_808) ww_809 ww_60 rfl dd_md_ask_9) (kk_M_isPrescription_no hq1) (Nat.le_trans (Nat.le_of_ble_eq_true rfl) hfr) (Nat.le_trans (Nat.le_of_ble_eq_true rfl) hlo) (Nat.le_trans (Nat.le_of_ble_eq_true rfl) hce) (Nat.le_trans (Nat.le_of_ble_eq_true rfl) hsl) hH hS (fun v σa t0 H locs hp477 ht0 hvm hzz hH hS => ?_) (fun _ _ _ _ _ hz _ _ _ _ _ => by cases hz.1)
      obtain ⟨ho, hσ⟩ := hp477
      cases ho
      rw [hσ] at hH
      refine W.eq (g2 := F0 m 12 ls [.int (nI 0), .ref (ad 13 0)]) rfl ?_
      refine lv_if_eq (tgt := 24) x.1 x.2.1 dd_md_ask_12 (by decide) (fun c478 => ?_) (fun c478 => absurd (by decide +kernel) c478)
      refine lv_iconst (v := nI 1) x.1 x.2.1 dd_md_ask_24 (by decide +kernel) ?_
      refine lv_goto (tgt := 29) x.1 x.2.1 dd_md_ask_25 (by decide) ?_
      refine lv_iconst (v := nI 1) x.1 x.2.1 dd_md_ask_29 (by decide +kernel) ?_
      refine mp_call x (wt_mv base) hG hB hl.1 (mp_invV (av := [.int (nI 1), .int (nI 1)]) x hH (la13 hL) rfl rfl mn_md_fails mc_md_fails (Or.inl ww_814) ww_816 ww_41 rfl dd_md_ask_30) (kk_M_fails1 hL) (Nat.le_trans (Nat.le_of_ble_eq_true rfl) hfr) (Nat.le_trans (Nat.le_of_ble_eq_true rfl) hlo) (Nat.le_trans (Nat.le_of_ble_eq_true rfl) hce) (Nat.le_trans (Nat.le_of_ble_eq_true rfl) hsl) hH hS (fun v σa t0 H locs hp479 ht0 hvm hzz hH hS => ?_) (fun _ _ _ _ _ hz _ _ _ _ _ => by cases hz.1)
      obtain ⟨ho, hL⟩ := hp479
      cases ho
      refine W.eq (g2 := F0 m 33 ls [.int (nI 1)]) rfl ?_
      refine lv_if_eq (tgt := 38) x.1 x.2.1 dd_md_ask_33 (by decide) (fun c480 => absurd c480 (by decide +kernel)) (fun c480 => ?_)
      refine lv_iconst (v := nI 0) x.1 x.2.1 dd_md_ask_36 (by decide +kernel) ?_
      exact mp_ri x hr hlk (by decide) (by decide) hH hS (fun _ => ⟨rfl, hL⟩) dd_md_ask_37
    · skip
      refine mp_call x (wt_mv base) hG hB hl.1 (mp_invS (av := [.int k1]) x mn_md_isPrescription mc_md_isPrescription (Or.inl ww_808) ww_809 ww_60 rfl dd_md_ask_9) (kk_M_isPrescription_ok hq1) (Nat.le_trans (Nat.le_of_ble_eq_true rfl) hfr) (Nat.le_trans (Nat.le_of_ble_eq_true rfl) hlo) (Nat.le_trans (Nat.le_of_ble_eq_true rfl) hce) (Nat.le_trans (Nat.le_of_ble_eq_true rfl) hsl) hH hS (fun v σa t0 H locs hp481 ht0 hvm hzz hH hS => ?_) (fun _ _ _ _ _ hz _ _ _ _ _ => by cases hz.1)
      obtain ⟨ho, hσ⟩ := hp481
      cases ho
      rw [hσ] at hH
      refine W.eq (g2 := F0 m 12 ls [.int (nI 1), .ref (ad 13 0)]) rfl ?_
      refine lv_if_eq (tgt := 24) x.1 x.2.1 dd_md_ask_12 (by decide) (fun c482 => absurd c482 (by decide +kernel)) (fun c482 => ?_)
      refine lv_iload_n x.1 x.2.1 dd_md_ask_15 rfl (lv_at hl 3 rfl) ?_
      refine lv_ldc (v := 100001) x.1 x.2.1 x.2.2.2.1 (x.2.2.2.2.1 _ ww_825) dd_md_ask_16 ?_
      refine mn_top (w := nI 100001) (by decide +kernel) ?_
      by_cases hq2 : k2 < 0 ∨ nI 100001 ≤ k2
      · skip
        refine mp_call x (wt_mv base) hG hB hl.1 (mp_invS (av := [.int k2, .int (nI 100001)]) x mn_md_within mc_md_within (Or.inl ww_811) ww_812 ww_60 rfl dd_md_ask_18) (kk_M_within_no hq2) (Nat.le_trans (Nat.le_of_ble_eq_true rfl) hfr) (Nat.le_trans (Nat.le_of_ble_eq_true rfl) hlo) (Nat.le_trans (Nat.le_of_ble_eq_true rfl) hce) (Nat.le_trans (Nat.le_of_ble_eq_true rfl) hsl) hH hS (fun v σa t0 H locs hp483 ht0 hvm hzz hH hS => ?_) (fun _ _ _ _ _ hz _ _ _ _ _ => by cases hz.1)
        obtain ⟨ho, hσ⟩ := hp483
        cases ho
        rw [hσ] at hH
        refine W.eq (g2 := F0 m 21 ls [.int (nI 0), .ref (ad 13 0)]) rfl ?_
        refine lv_if_ne (tgt := 28) x.1 x.2.1 dd_md_ask_21 (by decide) (fun c484 => absurd (by decide +kernel) c484) (fun c484 => ?_)
        refine lv_iconst (v := nI 1) x.1 x.2.1 dd_md_ask_24 (by decide +kernel) ?_
        refine lv_goto (tgt := 29) x.1 x.2.1 dd_md_ask_25 (by decide) ?_
        refine lv_iconst (v := nI 1) x.1 x.2.1 dd_md_ask_29 (by decide +kernel) ?_
        refine mp_call x (wt_mv base) hG hB hl.1 (mp_invV (av := [.int (nI 1), .int (nI 1)]) x hH (la13 hL) rfl rfl mn_md_fails mc_md_fails (Or.inl ww_814) ww_816 ww_41 rfl dd_md_ask_30) (kk_M_fails1 hL) (Nat.le_trans (Nat.le_of_ble_eq_true rfl) hfr) (Nat.le_trans (Nat.le_of_ble_eq_true rfl) hlo) (Nat.le_trans (Nat.le_of_ble_eq_true rfl) hce) (Nat.le_trans (Nat.le_of_ble_eq_true rfl) hsl) hH hS (fun v σa t0 H locs hp485 ht0 hvm hzz hH hS => ?_) (fun _ _ _ _ _ hz _ _ _ _ _ => by cases hz.1)
        obtain ⟨ho, hL⟩ := hp485
        cases ho
        refine W.eq (g2 := F0 m 33 ls [.int (nI 1)]) rfl ?_
        refine lv_if_eq (tgt := 38) x.1 x.2.1 dd_md_ask_33 (by decide) (fun c486 => absurd c486 (by decide +kernel)) (fun c486 => ?_)
        refine lv_iconst (v := nI 0) x.1 x.2.1 dd_md_ask_36 (by decide +kernel) ?_
        exact mp_ri x hr hlk (by decide) (by decide) hH hS (fun _ => ⟨rfl, hL⟩) dd_md_ask_37
      · skip
        exact (hQ.elim hq0 (fun z => z.elim hq1 hq2)).elim
set_option maxRecDepth 100000 in
set_option maxHeartbeats 4000000 in
theorem kk_MX_retry_1 {l : Launch} {D : va_G} {ar : Nat → ClassId} {base : Nat} {σ : mp_M} {ad : Nat → Nat → Nat} {rg : Nat → Bool} {pl : Nat → Nat} {V M : fV} {k0 k1 : Int32} (hL : Lay ar ad rg pl V M σ) (hQ : (k0 < 0 ∨ nI 25 ≤ k0) ∨ (k1 < 0 ∨ nI 20 ≤ k1)) : CN l D ar base yy_md_retry prog_9_method_15_code 3 (Option.some Jvm.ClassFile.FieldType.int) [] 2 26 0 0 [.ref (ad 13 0), .int k0, .int k1] σ (fun o σ' _ => o = .returned (some (.int (nI 0))) ∧ Lay ar ad rg pl V (mu M 27 0 (nI 1)) σ') := by
  refine mp_in (Nat.le_of_ble_eq_true rfl) ?_
  intro p e R s m below meth c x hfr hlo hce hsl hr hlk hin hex hG hB ls H hH0 hH hS hl
  have hl : lv_has ls 3 [(0, .ref (ad 13 0)), (1, .int k0), (2, .int k1)] := hl
  refine lv_aload_n x.1 x.2.1 dd_md_retry_0 rfl (lv_at hl 0 rfl) ?_
  refine lv_iload_n x.1 x.2.1 dd_md_retry_1 rfl (lv_at hl 1 rfl) ?_
  by_cases hq0 : k0 < 0 ∨ nI 25 ≤ k0
  · skip
    refine mp_call x (wt_mv base) hG hB hl.1 (mp_invS (av := [.int k0]) x mn_md_isShop mc_md_isShop (Or.inl ww_822) ww_823 ww_60 rfl dd_md_retry_2) (kk_M_isShop_no hq0) (Nat.le_trans (Nat.le_of_ble_eq_true rfl) hfr) (Nat.le_trans (Nat.le_of_ble_eq_true rfl) hlo) (Nat.le_trans (Nat.le_of_ble_eq_true rfl) hce) (Nat.le_trans (Nat.le_of_ble_eq_true rfl) hsl) hH hS (fun v σa t0 H locs hp487 ht0 hvm hzz hH hS => ?_) (fun _ _ _ _ _ hz _ _ _ _ _ => by cases hz.1)
    obtain ⟨ho, hσ⟩ := hp487
    cases ho
    rw [hσ] at hH
    refine W.eq (g2 := F0 m 5 ls [.int (nI 0), .ref (ad 13 0)]) rfl ?_
    refine lv_if_eq (tgt := 15) x.1 x.2.1 dd_md_retry_5 (by decide) (fun c488 => ?_) (fun c488 => absurd (by decide +kernel) c488)
    refine lv_iconst (v := nI 1) x.1 x.2.1 dd_md_retry_15 (by decide +kernel) ?_
    refine lv_goto (tgt := 20) x.1 x.2.1 dd_md_retry_16 (by decide) ?_
    refine lv_iconst (v := nI 1) x.1 x.2.1 dd_md_retry_20 (by decide +kernel) ?_
    refine mp_call x (wt_mv base) hG hB hl.1 (mp_invV (av := [.int (nI 1), .int (nI 1)]) x hH (la13 hL) rfl rfl mn_md_fails mc_md_fails (Or.inl ww_814) ww_816 ww_41 rfl dd_md_retry_21) (kk_M_fails1 hL) (Nat.le_trans (Nat.le_of_ble_eq_true rfl) hfr) (Nat.le_trans (Nat.le_of_ble_eq_true rfl) hlo) (Nat.le_trans (Nat.le_of_ble_eq_true rfl) hce) (Nat.le_trans (Nat.le_of_ble_eq_true rfl) hsl) hH hS (fun v σa t0 H locs hp489 ht0 hvm hzz hH hS => ?_) (fun _ _ _ _ _ hz _ _ _ _ _ => by cases hz.1)
    obtain ⟨ho, hL⟩ := hp489
    cases ho
    refine W.eq (g2 := F0 m 24 ls [.int (nI 1)]) rfl ?_
    refine lv_if_eq (tgt := 29) x.1 x.2.1 dd_md_retry_24 (by decide) (fun c490 => absurd c490 (by decide +kernel)) (fun c490 => ?_)
    refine lv_iconst (v := nI 0) x.1 x.2.1 dd_md_retry_27 (by decide +kernel) ?_
    exact mp_ri x hr hlk (by decide) (by decide) hH hS (fun _ => ⟨rfl, hL⟩) dd_md_retry_28
  · skip
    refine mp_call x (wt_mv base) hG hB hl.1 (mp_invS (av := [.int k0]) x mn_md_isShop mc_md_isShop (Or.inl ww_822) ww_823 ww_60 rfl dd_md_retry_2) (kk_M_isShop_ok hq0) (Nat.le_trans (Nat.le_of_ble_eq_true rfl) hfr) (Nat.le_trans (Nat.le_of_ble_eq_true rfl) hlo) (Nat.le_trans (Nat.le_of_ble_eq_true rfl) hce) (Nat.le_trans (Nat.le_of_ble_eq_true rfl) hsl) hH hS (fun v σa t0 H locs hp491 ht0 hvm hzz hH hS => ?_) (fun _ _ _ _ _ hz _ _ _ _ _ => by cases hz.1)
    obtain ⟨ho, hσ⟩ := hp491
    cases ho
    rw [hσ] at hH
    refine W.eq (g2 := F0 m 5 ls [.int (nI 1), .ref (ad 13 0)]) rfl ?_
    refine lv_if_eq (tgt := 15) x.1 x.2.1 dd_md_retry_5 (by decide) (fun c492 => absurd c492 (by decide +kernel)) (fun c492 => ?_)
    refine lv_iload_n x.1 x.2.1 dd_md_retry_8 rfl (lv_at hl 2 rfl) ?_
    by_cases hq1 : k1 < 0 ∨ nI 20 ≤ k1
    · skip
      refine mp_call x (wt_mv base) hG hB hl.1 (mp_invS (av := [.int k1]) x mn_md_isPrescription mc_md_isPrescription (Or.inl ww_808) ww_809 ww_60 rfl dd_md_retry_9) (kk_M_isPrescription_no hq1) (Nat.le_trans (Nat.le_of_ble_eq_true rfl) hfr) (Nat.le_trans (Nat.le_of_ble_eq_true rfl) hlo) (Nat.le_trans (Nat.le_of_ble_eq_true rfl) hce) (Nat.le_trans (Nat.le_of_ble_eq_true rfl) hsl) hH hS (fun v σa t0 H locs hp493 ht0 hvm hzz hH hS => ?_) (fun _ _ _ _ _ hz _ _ _ _ _ => by cases hz.1)
      obtain ⟨ho, hσ⟩ := hp493
      cases ho
      rw [hσ] at hH
      refine W.eq (g2 := F0 m 12 ls [.int (nI 0), .ref (ad 13 0)]) rfl ?_
      refine lv_if_ne (tgt := 19) x.1 x.2.1 dd_md_retry_12 (by decide) (fun c494 => absurd (by decide +kernel) c494) (fun c494 => ?_)
      refine lv_iconst (v := nI 1) x.1 x.2.1 dd_md_retry_15 (by decide +kernel) ?_
      refine lv_goto (tgt := 20) x.1 x.2.1 dd_md_retry_16 (by decide) ?_
      refine lv_iconst (v := nI 1) x.1 x.2.1 dd_md_retry_20 (by decide +kernel) ?_
      refine mp_call x (wt_mv base) hG hB hl.1 (mp_invV (av := [.int (nI 1), .int (nI 1)]) x hH (la13 hL) rfl rfl mn_md_fails mc_md_fails (Or.inl ww_814) ww_816 ww_41 rfl dd_md_retry_21) (kk_M_fails1 hL) (Nat.le_trans (Nat.le_of_ble_eq_true rfl) hfr) (Nat.le_trans (Nat.le_of_ble_eq_true rfl) hlo) (Nat.le_trans (Nat.le_of_ble_eq_true rfl) hce) (Nat.le_trans (Nat.le_of_ble_eq_true rfl) hsl) hH hS (fun v σa t0 H locs hp495 ht0 hvm hzz hH hS => ?_) (fun _ _ _ _ _ hz _ _ _ _ _ => by cases hz.1)
      obtain ⟨ho, hL⟩ := hp495
      cases ho
      refine W.eq (g2 := F0 m 24 ls [.int (nI 1)]) rfl ?_
      refine lv_if_eq (tgt := 29) x.1 x.2.1 dd_md_retry_24 (by decide) (fun c496 => absurd c496 (by decide +kernel)) (fun c496 => ?_)
      refine lv_iconst (v := nI 0) x.1 x.2.1 dd_md_retry_27 (by decide +kernel) ?_
      exact mp_ri x hr hlk (by decide) (by decide) hH hS (fun _ => ⟨rfl, hL⟩) dd_md_retry_28
    · skip
      exact (hQ.elim hq0 hq1).elim
set_option maxRecDepth 100000 in
set_option maxHeartbeats 4000000 in
theorem kk_MX_deliver_1 {l : Launch} {D : va_G} {ar : Nat → ClassId} {base : Nat} {σ : mp_M} {ad : Nat → Nat → Nat} {rg : Nat → Bool} {pl : Nat → Nat} {V M : fV} {k0 : Int32} {n : Nat} (hL : Lay ar ad rg pl V M σ) (hn : M 22 0 = nI n) (hQ : (k0 < 0 ∨ nI n ≤ k0)) : CN l D ar base yy_md_deliver prog_9_method_22_code 2 (Option.some Jvm.ClassFile.FieldType.int) [] 1 14 0 0 [.ref (ad 13 0), .int k0] σ (fun o σ' _ => o = .returned (some (.int (nI 0))) ∧ Lay ar ad rg pl V (mu M 27 0 (nI 1)) σ') := by
  refine mp_in (Nat.le_of_ble_eq_true rfl) ?_
  intro p e R s m below meth c x hfr hlo hce hsl hr hlk hin hex hG hB ls H hH0 hH hS hl
  have hl : lv_has ls 2 [(0, .ref (ad 13 0)), (1, .int k0)] := hl
  refine lv_aload_n x.1 x.2.1 dd_md_deliver_0 rfl (lv_at hl 0 rfl) ?_
  refine lv_iload_n x.1 x.2.1 dd_md_deliver_1 rfl (lv_at hl 1 rfl) ?_
  refine lv_aload_n x.1 x.2.1 dd_md_deliver_2 rfl (lv_at hl 0 rfl) ?_
  refine mp_get x hH (la13 hL) fg_md_99 rfl dd_md_deliver_3 ?_
  refine mn_top (w := nI n) (hn) ?_
  by_cases hq0 : k0 < 0 ∨ nI n ≤ k0
  · skip
    refine mp_call x (wt_mv base) hG hB hl.1 (mp_invS (av := [.int k0, .int (nI n)]) x mn_md_within mc_md_within (Or.inl ww_811) ww_812 ww_60 rfl dd_md_deliver_6) (kk_M_within_no hq0) (Nat.le_trans (Nat.le_of_ble_eq_true rfl) hfr) (Nat.le_trans (Nat.le_of_ble_eq_true rfl) hlo) (Nat.le_trans (Nat.le_of_ble_eq_true rfl) hce) (Nat.le_trans (Nat.le_of_ble_eq_true rfl) hsl) hH hS (fun v σa t0 H locs hp497 ht0 hvm hzz hH hS => ?_) (fun _ _ _ _ _ hz _ _ _ _ _ => by cases hz.1)
    obtain ⟨ho, hσ⟩ := hp497
    cases ho
    rw [hσ] at hH
    refine W.eq (g2 := F0 m 9 ls [.int (nI 0), .ref (ad 13 0)]) rfl ?_
    refine lv_if_ne (tgt := 16) x.1 x.2.1 dd_md_deliver_9 (by decide) (fun c498 => absurd (by decide +kernel) c498) (fun c498 => ?_)
    refine lv_iconst (v := nI 1) x.1 x.2.1 dd_md_deliver_12 (by decide +kernel) ?_
    refine lv_goto (tgt := 17) x.1 x.2.1 dd_md_deliver_13 (by decide) ?_
    refine lv_iconst (v := nI 1) x.1 x.2.1 dd_md_deliver_17 (by decide +kernel) ?_
    refine mp_call x (wt_mv base) hG hB hl.1 (mp_invV (av := [.int (nI 1), .int (nI 1)]) x hH (la13 hL) rfl rfl mn_md_fails mc_md_fails (Or.inl ww_814) ww_816 ww_41 rfl dd_md_deliver_18) (kk_M_fails1 hL) (Nat.le_trans (Nat.le_of_ble_eq_true rfl) hfr) (Nat.le_trans (Nat.le_of_ble_eq_true rfl) hlo) (Nat.le_trans (Nat.le_of_ble_eq_true rfl) hce) (Nat.le_trans (Nat.le_of_ble_eq_true rfl) hsl) hH hS (fun v σa t0 H locs hp499 ht0 hvm hzz hH hS => ?_) (fun _ _ _ _ _ hz _ _ _ _ _ => by cases hz.1)
    obtain ⟨ho, hL⟩ := hp499
    cases ho
    refine W.eq (g2 := F0 m 21 ls [.int (nI 1)]) rfl ?_
    refine lv_if_eq (tgt := 26) x.1 x.2.1 dd_md_deliver_21 (by decide) (fun c500 => absurd c500 (by decide +kernel)) (fun c500 => ?_)
    refine lv_iconst (v := nI 0) x.1 x.2.1 dd_md_deliver_24 (by decide +kernel) ?_
    exact mp_ri x hr hlk (by decide) (by decide) hH hS (fun _ => ⟨rfl, hL⟩) dd_md_deliver_25
  · skip
    exact absurd hQ hq0
set_option maxRecDepth 100000 in
set_option maxHeartbeats 4000000 in
theorem kk_MX_drop_1 {l : Launch} {D : va_G} {ar : Nat → ClassId} {base : Nat} {σ : mp_M} {ad : Nat → Nat → Nat} {rg : Nat → Bool} {pl : Nat → Nat} {V M : fV} {k0 : Int32} {n : Nat} (hL : Lay ar ad rg pl V M σ) (hn : M 22 0 = nI n) (hQ : (k0 < 0 ∨ nI n ≤ k0)) : CN l D ar base yy_md_drop prog_9_method_23_code 2 (Option.some Jvm.ClassFile.FieldType.int) [] 1 14 0 0 [.ref (ad 13 0), .int k0] σ (fun o σ' _ => o = .returned (some (.int (nI 0))) ∧ Lay ar ad rg pl V (mu M 27 0 (nI 1)) σ') := by
  refine mp_in (Nat.le_of_ble_eq_true rfl) ?_
  intro p e R s m below meth c x hfr hlo hce hsl hr hlk hin hex hG hB ls H hH0 hH hS hl
  have hl : lv_has ls 2 [(0, .ref (ad 13 0)), (1, .int k0)] := hl
  refine lv_aload_n x.1 x.2.1 dd_md_drop_0 rfl (lv_at hl 0 rfl) ?_
  refine lv_iload_n x.1 x.2.1 dd_md_drop_1 rfl (lv_at hl 1 rfl) ?_
  refine lv_aload_n x.1 x.2.1 dd_md_drop_2 rfl (lv_at hl 0 rfl) ?_
  refine mp_get x hH (la13 hL) fg_md_99 rfl dd_md_drop_3 ?_
  refine mn_top (w := nI n) (hn) ?_
  by_cases hq0 : k0 < 0 ∨ nI n ≤ k0
  · skip
    refine mp_call x (wt_mv base) hG hB hl.1 (mp_invS (av := [.int k0, .int (nI n)]) x mn_md_within mc_md_within (Or.inl ww_811) ww_812 ww_60 rfl dd_md_drop_6) (kk_M_within_no hq0) (Nat.le_trans (Nat.le_of_ble_eq_true rfl) hfr) (Nat.le_trans (Nat.le_of_ble_eq_true rfl) hlo) (Nat.le_trans (Nat.le_of_ble_eq_true rfl) hce) (Nat.le_trans (Nat.le_of_ble_eq_true rfl) hsl) hH hS (fun v σa t0 H locs hp501 ht0 hvm hzz hH hS => ?_) (fun _ _ _ _ _ hz _ _ _ _ _ => by cases hz.1)
    obtain ⟨ho, hσ⟩ := hp501
    cases ho
    rw [hσ] at hH
    refine W.eq (g2 := F0 m 9 ls [.int (nI 0), .ref (ad 13 0)]) rfl ?_
    refine lv_if_ne (tgt := 16) x.1 x.2.1 dd_md_drop_9 (by decide) (fun c502 => absurd (by decide +kernel) c502) (fun c502 => ?_)
    refine lv_iconst (v := nI 1) x.1 x.2.1 dd_md_drop_12 (by decide +kernel) ?_
    refine lv_goto (tgt := 17) x.1 x.2.1 dd_md_drop_13 (by decide) ?_
    refine lv_iconst (v := nI 1) x.1 x.2.1 dd_md_drop_17 (by decide +kernel) ?_
    refine mp_call x (wt_mv base) hG hB hl.1 (mp_invV (av := [.int (nI 1), .int (nI 1)]) x hH (la13 hL) rfl rfl mn_md_fails mc_md_fails (Or.inl ww_814) ww_816 ww_41 rfl dd_md_drop_18) (kk_M_fails1 hL) (Nat.le_trans (Nat.le_of_ble_eq_true rfl) hfr) (Nat.le_trans (Nat.le_of_ble_eq_true rfl) hlo) (Nat.le_trans (Nat.le_of_ble_eq_true rfl) hce) (Nat.le_trans (Nat.le_of_ble_eq_true rfl) hsl) hH hS (fun v σa t0 H locs hp503 ht0 hvm hzz hH hS => ?_) (fun _ _ _ _ _ hz _ _ _ _ _ => by cases hz.1)
    obtain ⟨ho, hL⟩ := hp503
    cases ho
    refine W.eq (g2 := F0 m 21 ls [.int (nI 1)]) rfl ?_
    refine lv_if_eq (tgt := 26) x.1 x.2.1 dd_md_drop_21 (by decide) (fun c504 => absurd c504 (by decide +kernel)) (fun c504 => ?_)
    refine lv_iconst (v := nI 0) x.1 x.2.1 dd_md_drop_24 (by decide +kernel) ?_
    exact mp_ri x hr hlk (by decide) (by decide) hH hS (fun _ => ⟨rfl, hL⟩) dd_md_drop_25
  · skip
    exact absurd hQ hq0
set_option maxRecDepth 100000 in
set_option maxHeartbeats 4000000 in
theorem kk_MX_copy_1 {l : Launch} {D : va_G} {ar : Nat → ClassId} {base : Nat} {σ : mp_M} {ad : Nat → Nat → Nat} {rg : Nat → Bool} {pl : Nat → Nat} {V M : fV} {k0 : Int32} {n : Nat} (hL : Lay ar ad rg pl V M σ) (hn : M 22 0 = nI n) (hQ : (k0 < 0 ∨ nI n ≤ k0)) : CN l D ar base yy_md_copy prog_9_method_24_code 3 (Option.some Jvm.ClassFile.FieldType.boolean) [] 1 14 0 0 [.ref (ad 13 0), .int k0] σ (fun o σ' _ => o = .returned (some (.int (nI 0))) ∧ Lay ar ad rg pl V (mu M 27 0 (nI 1)) σ') := by
  refine mp_in (Nat.le_of_ble_eq_true rfl) ?_
  intro p e R s m below meth c x hfr hlo hce hsl hr hlk hin hex hG hB ls H hH0 hH hS hl
  have hl : lv_has ls 3 [(0, .ref (ad 13 0)), (1, .int k0)] := hl
  refine lv_aload_n x.1 x.2.1 dd_md_copy_0 rfl (lv_at hl 0 rfl) ?_
  refine lv_iload_n x.1 x.2.1 dd_md_copy_1 rfl (lv_at hl 1 rfl) ?_
  refine lv_aload_n x.1 x.2.1 dd_md_copy_2 rfl (lv_at hl 0 rfl) ?_
  refine mp_get x hH (la13 hL) fg_md_99 rfl dd_md_copy_3 ?_
  refine mn_top (w := nI n) (hn) ?_
  by_cases hq0 : k0 < 0 ∨ nI n ≤ k0
  · skip
    refine mp_call x (wt_mv base) hG hB hl.1 (mp_invS (av := [.int k0, .int (nI n)]) x mn_md_within mc_md_within (Or.inl ww_811) ww_812 ww_60 rfl dd_md_copy_6) (kk_M_within_no hq0) (Nat.le_trans (Nat.le_of_ble_eq_true rfl) hfr) (Nat.le_trans (Nat.le_of_ble_eq_true rfl) hlo) (Nat.le_trans (Nat.le_of_ble_eq_true rfl) hce) (Nat.le_trans (Nat.le_of_ble_eq_true rfl) hsl) hH hS (fun v σa t0 H locs hp505 ht0 hvm hzz hH hS => ?_) (fun _ _ _ _ _ hz _ _ _ _ _ => by cases hz.1)
    obtain ⟨ho, hσ⟩ := hp505
    cases ho
    rw [hσ] at hH
    refine W.eq (g2 := F0 m 9 ls [.int (nI 0), .ref (ad 13 0)]) rfl ?_
    refine lv_if_ne (tgt := 16) x.1 x.2.1 dd_md_copy_9 (by decide) (fun c506 => absurd (by decide +kernel) c506) (fun c506 => ?_)
    refine lv_iconst (v := nI 1) x.1 x.2.1 dd_md_copy_12 (by decide +kernel) ?_
    refine lv_goto (tgt := 17) x.1 x.2.1 dd_md_copy_13 (by decide) ?_
    refine lv_iconst (v := nI 1) x.1 x.2.1 dd_md_copy_17 (by decide +kernel) ?_
    refine mp_call x (wt_mv base) hG hB hl.1 (mp_invV (av := [.int (nI 1), .int (nI 1)]) x hH (la13 hL) rfl rfl mn_md_fails mc_md_fails (Or.inl ww_814) ww_816 ww_41 rfl dd_md_copy_18) (kk_M_fails1 hL) (Nat.le_trans (Nat.le_of_ble_eq_true rfl) hfr) (Nat.le_trans (Nat.le_of_ble_eq_true rfl) hlo) (Nat.le_trans (Nat.le_of_ble_eq_true rfl) hce) (Nat.le_trans (Nat.le_of_ble_eq_true rfl) hsl) hH hS (fun v σa t0 H locs hp507 ht0 hvm hzz hH hS => ?_) (fun _ _ _ _ _ hz _ _ _ _ _ => by cases hz.1)
    obtain ⟨ho, hL⟩ := hp507
    cases ho
    refine W.eq (g2 := F0 m 21 ls [.int (nI 1)]) rfl ?_
    refine lv_if_ne (tgt := 33) x.1 x.2.1 dd_md_copy_21 (by decide) (fun c508 => ?_) (fun c508 => absurd c508 (by decide +kernel))
    refine lv_iconst (v := nI 0) x.1 x.2.1 dd_md_copy_33 (by decide +kernel) ?_
    exact mp_rz x hr (by decide) hlk (by decide) (by decide) hH hS (fun _ => ⟨rfl, hL⟩) dd_md_copy_34
  · skip
    exact absurd hQ hq0
set_option maxRecDepth 100000 in
set_option maxHeartbeats 4000000 in
theorem kk_MX_deliverAll_1 {l : Launch} {D : va_G} {ar : Nat → ClassId} {base : Nat} {σ : mp_M} {ad : Nat → Nat → Nat} {rg : Nat → Bool} {pl : Nat → Nat} {V M : fV} {k0 : Int32} (hL : Lay ar ad rg pl V M σ) (hQ : (k0 < 0 ∨ nI 2001 ≤ k0)) : CN l D ar base yy_md_deliverAll prog_9_method_25_code 3 (Option.some Jvm.ClassFile.FieldType.int) [] 1 14 0 0 [.ref (ad 13 0), .int k0] σ (fun o σ' _ => o = .returned (some (.int (nI 0))) ∧ Lay ar ad rg pl V (mu M 27 0 (nI 1)) σ') := by
  refine mp_in (Nat.le_of_ble_eq_true rfl) ?_
  intro p e R s m below meth c x hfr hlo hce hsl hr hlk hin hex hG hB ls H hH0 hH hS hl
  have hl : lv_has ls 3 [(0, .ref (ad 13 0)), (1, .int k0)] := hl
  refine lv_aload_n x.1 x.2.1 dd_md_deliverAll_0 rfl (lv_at hl 0 rfl) ?_
  refine lv_iload_n x.1 x.2.1 dd_md_deliverAll_1 rfl (lv_at hl 1 rfl) ?_
  refine lv_sipush (v := nI 2001) x.1 x.2.1 dd_md_deliverAll_2 (by decide +kernel) ?_
  by_cases hq0 : k0 < 0 ∨ nI 2001 ≤ k0
  · skip
    refine mp_call x (wt_mv base) hG hB hl.1 (mp_invS (av := [.int k0, .int (nI 2001)]) x mn_md_within mc_md_within (Or.inl ww_811) ww_812 ww_60 rfl dd_md_deliverAll_5) (kk_M_within_no hq0) (Nat.le_trans (Nat.le_of_ble_eq_true rfl) hfr) (Nat.le_trans (Nat.le_of_ble_eq_true rfl) hlo) (Nat.le_trans (Nat.le_of_ble_eq_true rfl) hce) (Nat.le_trans (Nat.le_of_ble_eq_true rfl) hsl) hH hS (fun v σa t0 H locs hp509 ht0 hvm hzz hH hS => ?_) (fun _ _ _ _ _ hz _ _ _ _ _ => by cases hz.1)
    obtain ⟨ho, hσ⟩ := hp509
    cases ho
    rw [hσ] at hH
    refine W.eq (g2 := F0 m 8 ls [.int (nI 0), .ref (ad 13 0)]) rfl ?_
    refine lv_if_ne (tgt := 15) x.1 x.2.1 dd_md_deliverAll_8 (by decide) (fun c510 => absurd (by decide +kernel) c510) (fun c510 => ?_)
    refine lv_iconst (v := nI 1) x.1 x.2.1 dd_md_deliverAll_11 (by decide +kernel) ?_
    refine lv_goto (tgt := 16) x.1 x.2.1 dd_md_deliverAll_12 (by decide) ?_
    refine lv_iconst (v := nI 1) x.1 x.2.1 dd_md_deliverAll_16 (by decide +kernel) ?_
    refine mp_call x (wt_mv base) hG hB hl.1 (mp_invV (av := [.int (nI 1), .int (nI 1)]) x hH (la13 hL) rfl rfl mn_md_fails mc_md_fails (Or.inl ww_814) ww_816 ww_41 rfl dd_md_deliverAll_17) (kk_M_fails1 hL) (Nat.le_trans (Nat.le_of_ble_eq_true rfl) hfr) (Nat.le_trans (Nat.le_of_ble_eq_true rfl) hlo) (Nat.le_trans (Nat.le_of_ble_eq_true rfl) hce) (Nat.le_trans (Nat.le_of_ble_eq_true rfl) hsl) hH hS (fun v σa t0 H locs hp511 ht0 hvm hzz hH hS => ?_) (fun _ _ _ _ _ hz _ _ _ _ _ => by cases hz.1)
    obtain ⟨ho, hL⟩ := hp511
    cases ho
    refine W.eq (g2 := F0 m 20 ls [.int (nI 1)]) rfl ?_
    refine lv_if_eq (tgt := 25) x.1 x.2.1 dd_md_deliverAll_20 (by decide) (fun c512 => absurd c512 (by decide +kernel)) (fun c512 => ?_)
    refine lv_iconst (v := nI 0) x.1 x.2.1 dd_md_deliverAll_23 (by decide +kernel) ?_
    exact mp_ri x hr hlk (by decide) (by decide) hH hS (fun _ => ⟨rfl, hL⟩) dd_md_deliverAll_24
  · skip
    exact absurd hQ hq0
set_option maxRecDepth 100000 in
set_option maxHeartbeats 4000000 in
theorem kk_MX_up_1 {l : Launch} {D : va_G} {ar : Nat → ClassId} {base : Nat} {σ : mp_M} {ad : Nat → Nat → Nat} {rg : Nat → Bool} {pl : Nat → Nat} {V M : fV} {k0 k1 : Int32} (hL : Lay ar ad rg pl V M σ) (hQ : (k0 < 0 ∨ nI 25 ≤ k0)) : CN l D ar base yy_md_up prog_9_method_26_code 5 (Option.some Jvm.ClassFile.FieldType.boolean) [] 2 26 0 0 [.ref (ad 13 0), .int k0, .int k1] σ (fun o σ' _ => o = .returned (some (.int (nI 0))) ∧ Lay ar ad rg pl V (mu M 27 0 (nI 1)) σ') := by
  refine mp_in (Nat.le_of_ble_eq_true rfl) ?_
  intro p e R s m below meth c x hfr hlo hce hsl hr hlk hin hex hG hB ls H hH0 hH hS hl
  have hl : lv_has ls 5 [(0, .ref (ad 13 0)), (1, .int k0), (2, .int k1)] := hl
  refine lv_aload_n x.1 x.2.1 dd_md_up_0 rfl (lv_at hl 0 rfl) ?_
  refine lv_iload_n x.1 x.2.1 dd_md_up_1 rfl (lv_at hl 1 rfl) ?_
  by_cases hq0 : k0 < 0 ∨ nI 25 ≤ k0
  · skip
    refine mp_call x (wt_mv base) hG hB hl.1 (mp_invS (av := [.int k0]) x mn_md_isShop mc_md_isShop (Or.inl ww_822) ww_823 ww_60 rfl dd_md_up_2) (kk_M_isShop_no hq0) (Nat.le_trans (Nat.le_of_ble_eq_true rfl) hfr) (Nat.le_trans (Nat.le_of_ble_eq_true rfl) hlo) (Nat.le_trans (Nat.le_of_ble_eq_true rfl) hce) (Nat.le_trans (Nat.le_of_ble_eq_true rfl) hsl) hH hS (fun v σa t0 H locs hp513 ht0 hvm hzz hH hS => ?_) (fun _ _ _ _ _ hz _ _ _ _ _ => by cases hz.1)
    obtain ⟨ho, hσ⟩ := hp513
    cases ho
    rw [hσ] at hH
    refine W.eq (g2 := F0 m 5 ls [.int (nI 0), .ref (ad 13 0)]) rfl ?_
    refine lv_if_ne (tgt := 12) x.1 x.2.1 dd_md_up_5 (by decide) (fun c514 => absurd (by decide +kernel) c514) (fun c514 => ?_)
    refine lv_iconst (v := nI 1) x.1 x.2.1 dd_md_up_8 (by decide +kernel) ?_
    refine lv_goto (tgt := 13) x.1 x.2.1 dd_md_up_9 (by decide) ?_
    refine lv_iconst (v := nI 1) x.1 x.2.1 dd_md_up_13 (by decide +kernel) ?_
    refine mp_call x (wt_mv base) hG hB hl.1 (mp_invV (av := [.int (nI 1), .int (nI 1)]) x hH (la13 hL) rfl rfl mn_md_fails mc_md_fails (Or.inl ww_814) ww_816 ww_41 rfl dd_md_up_14) (kk_M_fails1 hL) (Nat.le_trans (Nat.le_of_ble_eq_true rfl) hfr) (Nat.le_trans (Nat.le_of_ble_eq_true rfl) hlo) (Nat.le_trans (Nat.le_of_ble_eq_true rfl) hce) (Nat.le_trans (Nat.le_of_ble_eq_true rfl) hsl) hH hS (fun v σa t0 H locs hp515 ht0 hvm hzz hH hS => ?_) (fun _ _ _ _ _ hz _ _ _ _ _ => by cases hz.1)
    obtain ⟨ho, hL⟩ := hp515
    cases ho
    refine W.eq (g2 := F0 m 17 ls [.int (nI 1)]) rfl ?_
    refine lv_if_eq (tgt := 22) x.1 x.2.1 dd_md_up_17 (by decide) (fun c516 => absurd c516 (by decide +kernel)) (fun c516 => ?_)
    refine lv_iconst (v := nI 0) x.1 x.2.1 dd_md_up_20 (by decide +kernel) ?_
    exact mp_rz x hr (by decide) hlk (by decide) (by decide) hH hS (fun _ => ⟨rfl, hL⟩) dd_md_up_21
  · skip
    exact absurd hQ hq0
set_option maxRecDepth 100000 in
set_option maxHeartbeats 4000000 in
theorem kk_MX_teach_1 {l : Launch} {D : va_G} {ar : Nat → ClassId} {base : Nat} {σ : mp_M} {ad : Nat → Nat → Nat} {rg : Nat → Bool} {pl : Nat → Nat} {V M : fV} {k0 k1 k2 : Int32} (hL : Lay ar ad rg pl V M σ) (hQ : (k0 < 0 ∨ nI 25 ≤ k0) ∨ (k1 < 0 ∨ nI 25 ≤ k1) ∨ (k2 < 0 ∨ nI 20 ≤ k2)) : CN l D ar base yy_md_teach prog_9_method_27_code 5 (Option.some Jvm.ClassFile.FieldType.boolean) [] 2 26 0 0 [.ref (ad 13 0), .int k0, .int k1, .int k2] σ (fun o σ' _ => o = .returned (some (.int (nI 0))) ∧ Lay ar ad rg pl V (mu M 27 0 (nI 1)) σ') := by
  refine mp_in (Nat.le_of_ble_eq_true rfl) ?_
  intro p e R s m below meth c x hfr hlo hce hsl hr hlk hin hex hG hB ls H hH0 hH hS hl
  have hl : lv_has ls 5 [(0, .ref (ad 13 0)), (1, .int k0), (2, .int k1), (3, .int k2)] := hl
  refine lv_aload_n x.1 x.2.1 dd_md_teach_0 rfl (lv_at hl 0 rfl) ?_
  refine lv_iload_n x.1 x.2.1 dd_md_teach_1 rfl (lv_at hl 1 rfl) ?_
  by_cases hq0 : k0 < 0 ∨ nI 25 ≤ k0
  · skip
    refine mp_call x (wt_mv base) hG hB hl.1 (mp_invS (av := [.int k0]) x mn_md_isShop mc_md_isShop (Or.inl ww_822) ww_823 ww_60 rfl dd_md_teach_2) (kk_M_isShop_no hq0) (Nat.le_trans (Nat.le_of_ble_eq_true rfl) hfr) (Nat.le_trans (Nat.le_of_ble_eq_true rfl) hlo) (Nat.le_trans (Nat.le_of_ble_eq_true rfl) hce) (Nat.le_trans (Nat.le_of_ble_eq_true rfl) hsl) hH hS (fun v σa t0 H locs hp517 ht0 hvm hzz hH hS => ?_) (fun _ _ _ _ _ hz _ _ _ _ _ => by cases hz.1)
    obtain ⟨ho, hσ⟩ := hp517
    cases ho
    rw [hσ] at hH
    refine W.eq (g2 := F0 m 5 ls [.int (nI 0), .ref (ad 13 0)]) rfl ?_
    refine lv_if_eq (tgt := 22) x.1 x.2.1 dd_md_teach_5 (by decide) (fun c518 => ?_) (fun c518 => absurd (by decide +kernel) c518)
    refine lv_iconst (v := nI 1) x.1 x.2.1 dd_md_teach_22 (by decide +kernel) ?_
    refine lv_goto (tgt := 27) x.1 x.2.1 dd_md_teach_23 (by decide) ?_
    refine lv_iconst (v := nI 1) x.1 x.2.1 dd_md_teach_27 (by decide +kernel) ?_
    refine mp_call x (wt_mv base) hG hB hl.1 (mp_invV (av := [.int (nI 1), .int (nI 1)]) x hH (la13 hL) rfl rfl mn_md_fails mc_md_fails (Or.inl ww_814) ww_816 ww_41 rfl dd_md_teach_28) (kk_M_fails1 hL) (Nat.le_trans (Nat.le_of_ble_eq_true rfl) hfr) (Nat.le_trans (Nat.le_of_ble_eq_true rfl) hlo) (Nat.le_trans (Nat.le_of_ble_eq_true rfl) hce) (Nat.le_trans (Nat.le_of_ble_eq_true rfl) hsl) hH hS (fun v σa t0 H locs hp519 ht0 hvm hzz hH hS => ?_) (fun _ _ _ _ _ hz _ _ _ _ _ => by cases hz.1)
    obtain ⟨ho, hL⟩ := hp519
    cases ho
    refine W.eq (g2 := F0 m 31 ls [.int (nI 1)]) rfl ?_
    refine lv_if_ne (tgt := 48) x.1 x.2.1 dd_md_teach_31 (by decide) (fun c520 => ?_) (fun c520 => absurd c520 (by decide +kernel))
    refine lv_iconst (v := nI 0) x.1 x.2.1 dd_md_teach_48 (by decide +kernel) ?_
    exact mp_rz x hr (by decide) hlk (by decide) (by decide) hH hS (fun _ => ⟨rfl, hL⟩) dd_md_teach_49
  · skip
    refine mp_call x (wt_mv base) hG hB hl.1 (mp_invS (av := [.int k0]) x mn_md_isShop mc_md_isShop (Or.inl ww_822) ww_823 ww_60 rfl dd_md_teach_2) (kk_M_isShop_ok hq0) (Nat.le_trans (Nat.le_of_ble_eq_true rfl) hfr) (Nat.le_trans (Nat.le_of_ble_eq_true rfl) hlo) (Nat.le_trans (Nat.le_of_ble_eq_true rfl) hce) (Nat.le_trans (Nat.le_of_ble_eq_true rfl) hsl) hH hS (fun v σa t0 H locs hp521 ht0 hvm hzz hH hS => ?_) (fun _ _ _ _ _ hz _ _ _ _ _ => by cases hz.1)
    obtain ⟨ho, hσ⟩ := hp521
    cases ho
    rw [hσ] at hH
    refine W.eq (g2 := F0 m 5 ls [.int (nI 1), .ref (ad 13 0)]) rfl ?_
    refine lv_if_eq (tgt := 22) x.1 x.2.1 dd_md_teach_5 (by decide) (fun c522 => absurd c522 (by decide +kernel)) (fun c522 => ?_)
    refine lv_iload_n x.1 x.2.1 dd_md_teach_8 rfl (lv_at hl 2 rfl) ?_
    by_cases hq1 : k1 < 0 ∨ nI 25 ≤ k1
    · skip
      refine mp_call x (wt_mv base) hG hB hl.1 (mp_invS (av := [.int k1]) x mn_md_isShop mc_md_isShop (Or.inl ww_822) ww_823 ww_60 rfl dd_md_teach_9) (kk_M_isShop_no hq1) (Nat.le_trans (Nat.le_of_ble_eq_true rfl) hfr) (Nat.le_trans (Nat.le_of_ble_eq_true rfl) hlo) (Nat.le_trans (Nat.le_of_ble_eq_true rfl) hce) (Nat.le_trans (Nat.le_of_ble_eq_true rfl) hsl) hH hS (fun v σa t0 H locs hp523 ht0 hvm hzz hH hS => ?_) (fun _ _ _ _ _ hz _ _ _ _ _ => by cases hz.1)
      obtain ⟨ho, hσ⟩ := hp523
      cases ho
      rw [hσ] at hH
      refine W.eq (g2 := F0 m 12 ls [.int (nI 0), .ref (ad 13 0)]) rfl ?_
      refine lv_if_eq (tgt := 22) x.1 x.2.1 dd_md_teach_12 (by decide) (fun c524 => ?_) (fun c524 => absurd (by decide +kernel) c524)
      refine lv_iconst (v := nI 1) x.1 x.2.1 dd_md_teach_22 (by decide +kernel) ?_
      refine lv_goto (tgt := 27) x.1 x.2.1 dd_md_teach_23 (by decide) ?_
      refine lv_iconst (v := nI 1) x.1 x.2.1 dd_md_teach_27 (by decide +kernel) ?_
      refine mp_call x (wt_mv base) hG hB hl.1 (mp_invV (av := [.int (nI 1), .int (nI 1)]) x hH (la13 hL) rfl rfl mn_md_fails mc_md_fails (Or.inl ww_814) ww_816 ww_41 rfl dd_md_teach_28) (kk_M_fails1 hL) (Nat.le_trans (Nat.le_of_ble_eq_true rfl) hfr) (Nat.le_trans (Nat.le_of_ble_eq_true rfl) hlo) (Nat.le_trans (Nat.le_of_ble_eq_true rfl) hce) (Nat.le_trans (Nat.le_of_ble_eq_true rfl) hsl) hH hS (fun v σa t0 H locs hp525 ht0 hvm hzz hH hS => ?_) (fun _ _ _ _ _ hz _ _ _ _ _ => by cases hz.1)
      obtain ⟨ho, hL⟩ := hp525
      cases ho
      refine W.eq (g2 := F0 m 31 ls [.int (nI 1)]) rfl ?_
      refine lv_if_ne (tgt := 48) x.1 x.2.1 dd_md_teach_31 (by decide) (fun c526 => ?_) (fun c526 => absurd c526 (by decide +kernel))
      refine lv_iconst (v := nI 0) x.1 x.2.1 dd_md_teach_48 (by decide +kernel) ?_
      exact mp_rz x hr (by decide) hlk (by decide) (by decide) hH hS (fun _ => ⟨rfl, hL⟩) dd_md_teach_49
    · skip
      refine mp_call x (wt_mv base) hG hB hl.1 (mp_invS (av := [.int k1]) x mn_md_isShop mc_md_isShop (Or.inl ww_822) ww_823 ww_60 rfl dd_md_teach_9) (kk_M_isShop_ok hq1) (Nat.le_trans (Nat.le_of_ble_eq_true rfl) hfr) (Nat.le_trans (Nat.le_of_ble_eq_true rfl) hlo) (Nat.le_trans (Nat.le_of_ble_eq_true rfl) hce) (Nat.le_trans (Nat.le_of_ble_eq_true rfl) hsl) hH hS (fun v σa t0 H locs hp527 ht0 hvm hzz hH hS => ?_) (fun _ _ _ _ _ hz _ _ _ _ _ => by cases hz.1)
      obtain ⟨ho, hσ⟩ := hp527
      cases ho
      rw [hσ] at hH
      refine W.eq (g2 := F0 m 12 ls [.int (nI 1), .ref (ad 13 0)]) rfl ?_
      refine lv_if_eq (tgt := 22) x.1 x.2.1 dd_md_teach_12 (by decide) (fun c528 => absurd c528 (by decide +kernel)) (fun c528 => ?_)
      refine lv_iload_n x.1 x.2.1 dd_md_teach_15 rfl (lv_at hl 3 rfl) ?_
      by_cases hq2 : k2 < 0 ∨ nI 20 ≤ k2
      · skip
        refine mp_call x (wt_mv base) hG hB hl.1 (mp_invS (av := [.int k2]) x mn_md_isPrescription mc_md_isPrescription (Or.inl ww_808) ww_809 ww_60 rfl dd_md_teach_16) (kk_M_isPrescription_no hq2) (Nat.le_trans (Nat.le_of_ble_eq_true rfl) hfr) (Nat.le_trans (Nat.le_of_ble_eq_true rfl) hlo) (Nat.le_trans (Nat.le_of_ble_eq_true rfl) hce) (Nat.le_trans (Nat.le_of_ble_eq_true rfl) hsl) hH hS (fun v σa t0 H locs hp529 ht0 hvm hzz hH hS => ?_) (fun _ _ _ _ _ hz _ _ _ _ _ => by cases hz.1)
        obtain ⟨ho, hσ⟩ := hp529
        cases ho
        rw [hσ] at hH
        refine W.eq (g2 := F0 m 19 ls [.int (nI 0), .ref (ad 13 0)]) rfl ?_
        refine lv_if_ne (tgt := 26) x.1 x.2.1 dd_md_teach_19 (by decide) (fun c530 => absurd (by decide +kernel) c530) (fun c530 => ?_)
        refine lv_iconst (v := nI 1) x.1 x.2.1 dd_md_teach_22 (by decide +kernel) ?_
        refine lv_goto (tgt := 27) x.1 x.2.1 dd_md_teach_23 (by decide) ?_
        refine lv_iconst (v := nI 1) x.1 x.2.1 dd_md_teach_27 (by decide +kernel) ?_
        refine mp_call x (wt_mv base) hG hB hl.1 (mp_invV (av := [.int (nI 1), .int (nI 1)]) x hH (la13 hL) rfl rfl mn_md_fails mc_md_fails (Or.inl ww_814) ww_816 ww_41 rfl dd_md_teach_28) (kk_M_fails1 hL) (Nat.le_trans (Nat.le_of_ble_eq_true rfl) hfr) (Nat.le_trans (Nat.le_of_ble_eq_true rfl) hlo) (Nat.le_trans (Nat.le_of_ble_eq_true rfl) hce) (Nat.le_trans (Nat.le_of_ble_eq_true rfl) hsl) hH hS (fun v σa t0 H locs hp531 ht0 hvm hzz hH hS => ?_) (fun _ _ _ _ _ hz _ _ _ _ _ => by cases hz.1)
        obtain ⟨ho, hL⟩ := hp531
        cases ho
        refine W.eq (g2 := F0 m 31 ls [.int (nI 1)]) rfl ?_
        refine lv_if_ne (tgt := 48) x.1 x.2.1 dd_md_teach_31 (by decide) (fun c532 => ?_) (fun c532 => absurd c532 (by decide +kernel))
        refine lv_iconst (v := nI 0) x.1 x.2.1 dd_md_teach_48 (by decide +kernel) ?_
        exact mp_rz x hr (by decide) hlk (by decide) (by decide) hH hS (fun _ => ⟨rfl, hL⟩) dd_md_teach_49
      · skip
        exact (hQ.elim hq0 (fun z => z.elim hq1 hq2)).elim
set_option maxRecDepth 100000 in
set_option maxHeartbeats 4000000 in
theorem kk_MX_letter_1 {l : Launch} {D : va_G} {ar : Nat → ClassId} {base : Nat} {σ : mp_M} {ad : Nat → Nat → Nat} {rg : Nat → Bool} {pl : Nat → Nat} {V M : fV} {k0 k1 : Int32} {n : Nat} (hL : Lay ar ad rg pl V M σ) (hn : M 22 0 = nI n) (hQ : (k0 < 0 ∨ nI n ≤ k0) ∨ (k1 < 0 ∨ nI 10 ≤ k1)) : CN l D ar base yy_md_letter prog_9_method_29_code 3 (Option.some Jvm.ClassFile.FieldType.int) [] 1 14 0 0 [.ref (ad 13 0), .int k0, .int k1] σ (fun o σ' _ => o = .returned (some (.int (nI 0))) ∧ Lay ar ad rg pl V (mu M 27 0 (nI 1)) σ') := by
  refine mp_in (Nat.le_of_ble_eq_true rfl) ?_
  intro p e R s m below meth c x hfr hlo hce hsl hr hlk hin hex hG hB ls H hH0 hH hS hl
  have hl : lv_has ls 3 [(0, .ref (ad 13 0)), (1, .int k0), (2, .int k1)] := hl
  refine lv_aload_n x.1 x.2.1 dd_md_letter_0 rfl (lv_at hl 0 rfl) ?_
  refine lv_iload_n x.1 x.2.1 dd_md_letter_1 rfl (lv_at hl 1 rfl) ?_
  refine lv_aload_n x.1 x.2.1 dd_md_letter_2 rfl (lv_at hl 0 rfl) ?_
  refine mp_get x hH (la13 hL) fg_md_99 rfl dd_md_letter_3 ?_
  refine mn_top (w := nI n) (hn) ?_
  by_cases hq0 : k0 < 0 ∨ nI n ≤ k0
  · skip
    refine mp_call x (wt_mv base) hG hB hl.1 (mp_invS (av := [.int k0, .int (nI n)]) x mn_md_within mc_md_within (Or.inl ww_811) ww_812 ww_60 rfl dd_md_letter_6) (kk_M_within_no hq0) (Nat.le_trans (Nat.le_of_ble_eq_true rfl) hfr) (Nat.le_trans (Nat.le_of_ble_eq_true rfl) hlo) (Nat.le_trans (Nat.le_of_ble_eq_true rfl) hce) (Nat.le_trans (Nat.le_of_ble_eq_true rfl) hsl) hH hS (fun v σa t0 H locs hp533 ht0 hvm hzz hH hS => ?_) (fun _ _ _ _ _ hz _ _ _ _ _ => by cases hz.1)
    obtain ⟨ho, hσ⟩ := hp533
    cases ho
    rw [hσ] at hH
    refine W.eq (g2 := F0 m 9 ls [.int (nI 0), .ref (ad 13 0)]) rfl ?_
    refine lv_if_eq (tgt := 21) x.1 x.2.1 dd_md_letter_9 (by decide) (fun c534 => ?_) (fun c534 => absurd (by decide +kernel) c534)
    refine lv_iconst (v := nI 1) x.1 x.2.1 dd_md_letter_21 (by decide +kernel) ?_
    refine lv_goto (tgt := 26) x.1 x.2.1 dd_md_letter_22 (by decide) ?_
    refine lv_iconst (v := nI 1) x.1 x.2.1 dd_md_letter_26 (by decide +kernel) ?_
    refine mp_call x (wt_mv base) hG hB hl.1 (mp_invV (av := [.int (nI 1), .int (nI 1)]) x hH (la13 hL) rfl rfl mn_md_fails mc_md_fails (Or.inl ww_814) ww_816 ww_41 rfl dd_md_letter_27) (kk_M_fails1 hL) (Nat.le_trans (Nat.le_of_ble_eq_true rfl) hfr) (Nat.le_trans (Nat.le_of_ble_eq_true rfl) hlo) (Nat.le_trans (Nat.le_of_ble_eq_true rfl) hce) (Nat.le_trans (Nat.le_of_ble_eq_true rfl) hsl) hH hS (fun v σa t0 H locs hp535 ht0 hvm hzz hH hS => ?_) (fun _ _ _ _ _ hz _ _ _ _ _ => by cases hz.1)
    obtain ⟨ho, hL⟩ := hp535
    cases ho
    refine W.eq (g2 := F0 m 30 ls [.int (nI 1)]) rfl ?_
    refine lv_if_eq (tgt := 35) x.1 x.2.1 dd_md_letter_30 (by decide) (fun c536 => absurd c536 (by decide +kernel)) (fun c536 => ?_)
    refine lv_iconst (v := nI 0) x.1 x.2.1 dd_md_letter_33 (by decide +kernel) ?_
    exact mp_ri x hr hlk (by decide) (by decide) hH hS (fun _ => ⟨rfl, hL⟩) dd_md_letter_34
  · skip
    refine mp_call x (wt_mv base) hG hB hl.1 (mp_invS (av := [.int k0, .int (nI n)]) x mn_md_within mc_md_within (Or.inl ww_811) ww_812 ww_60 rfl dd_md_letter_6) (kk_M_within_ok hq0) (Nat.le_trans (Nat.le_of_ble_eq_true rfl) hfr) (Nat.le_trans (Nat.le_of_ble_eq_true rfl) hlo) (Nat.le_trans (Nat.le_of_ble_eq_true rfl) hce) (Nat.le_trans (Nat.le_of_ble_eq_true rfl) hsl) hH hS (fun v σa t0 H locs hp537 ht0 hvm hzz hH hS => ?_) (fun _ _ _ _ _ hz _ _ _ _ _ => by cases hz.1)
    obtain ⟨ho, hσ⟩ := hp537
    cases ho
    rw [hσ] at hH
    refine W.eq (g2 := F0 m 9 ls [.int (nI 1), .ref (ad 13 0)]) rfl ?_
    refine lv_if_eq (tgt := 21) x.1 x.2.1 dd_md_letter_9 (by decide) (fun c538 => absurd c538 (by decide +kernel)) (fun c538 => ?_)
    refine lv_iload_n x.1 x.2.1 dd_md_letter_12 rfl (lv_at hl 2 rfl) ?_
    refine lv_bipush (v := nI 10) x.1 x.2.1 dd_md_letter_13 (by decide +kernel) ?_
    by_cases hq1 : k1 < 0 ∨ nI 10 ≤ k1
    · skip
      refine mp_call x (wt_mv base) hG hB hl.1 (mp_invS (av := [.int k1, .int (nI 10)]) x mn_md_within mc_md_within (Or.inl ww_811) ww_812 ww_60 rfl dd_md_letter_15) (kk_M_within_no hq1) (Nat.le_trans (Nat.le_of_ble_eq_true rfl) hfr) (Nat.le_trans (Nat.le_of_ble_eq_true rfl) hlo) (Nat.le_trans (Nat.le_of_ble_eq_true rfl) hce) (Nat.le_trans (Nat.le_of_ble_eq_true rfl) hsl) hH hS (fun v σa t0 H locs hp539 ht0 hvm hzz hH hS => ?_) (fun _ _ _ _ _ hz _ _ _ _ _ => by cases hz.1)
      obtain ⟨ho, hσ⟩ := hp539
      cases ho
      rw [hσ] at hH
      refine W.eq (g2 := F0 m 18 ls [.int (nI 0), .ref (ad 13 0)]) rfl ?_
      refine lv_if_ne (tgt := 25) x.1 x.2.1 dd_md_letter_18 (by decide) (fun c540 => absurd (by decide +kernel) c540) (fun c540 => ?_)
      refine lv_iconst (v := nI 1) x.1 x.2.1 dd_md_letter_21 (by decide +kernel) ?_
      refine lv_goto (tgt := 26) x.1 x.2.1 dd_md_letter_22 (by decide) ?_
      refine lv_iconst (v := nI 1) x.1 x.2.1 dd_md_letter_26 (by decide +kernel) ?_
      refine mp_call x (wt_mv base) hG hB hl.1 (mp_invV (av := [.int (nI 1), .int (nI 1)]) x hH (la13 hL) rfl rfl mn_md_fails mc_md_fails (Or.inl ww_814) ww_816 ww_41 rfl dd_md_letter_27) (kk_M_fails1 hL) (Nat.le_trans (Nat.le_of_ble_eq_true rfl) hfr) (Nat.le_trans (Nat.le_of_ble_eq_true rfl) hlo) (Nat.le_trans (Nat.le_of_ble_eq_true rfl) hce) (Nat.le_trans (Nat.le_of_ble_eq_true rfl) hsl) hH hS (fun v σa t0 H locs hp541 ht0 hvm hzz hH hS => ?_) (fun _ _ _ _ _ hz _ _ _ _ _ => by cases hz.1)
      obtain ⟨ho, hL⟩ := hp541
      cases ho
      refine W.eq (g2 := F0 m 30 ls [.int (nI 1)]) rfl ?_
      refine lv_if_eq (tgt := 35) x.1 x.2.1 dd_md_letter_30 (by decide) (fun c542 => absurd c542 (by decide +kernel)) (fun c542 => ?_)
      refine lv_iconst (v := nI 0) x.1 x.2.1 dd_md_letter_33 (by decide +kernel) ?_
      exact mp_ri x hr hlk (by decide) (by decide) hH hS (fun _ => ⟨rfl, hL⟩) dd_md_letter_34
    · skip
      exact (hQ.elim hq0 hq1).elim
set_option maxRecDepth 100000 in
set_option maxHeartbeats 4000000 in
theorem kk_MX_state_1 {l : Launch} {D : va_G} {ar : Nat → ClassId} {base : Nat} {σ : mp_M} {ad : Nat → Nat → Nat} {rg : Nat → Bool} {pl : Nat → Nat} {V M : fV} {k0 k1 : Int32} (hL : Lay ar ad rg pl V M σ) (hQ : (k0 < 0 ∨ nI 25 ≤ k0) ∨ (k1 < 0 ∨ nI 20 ≤ k1)) : CN l D ar base yy_md_state prog_9_method_30_code 4 (Option.some Jvm.ClassFile.FieldType.int) [] 2 26 0 0 [.ref (ad 13 0), .int k0, .int k1] σ (fun o σ' _ => o = .returned (some (.int (nI 0))) ∧ Lay ar ad rg pl V (mu M 27 0 (nI 1)) σ') := by
  refine mp_in (Nat.le_of_ble_eq_true rfl) ?_
  intro p e R s m below meth c x hfr hlo hce hsl hr hlk hin hex hG hB ls H hH0 hH hS hl
  have hl : lv_has ls 4 [(0, .ref (ad 13 0)), (1, .int k0), (2, .int k1)] := hl
  refine lv_aload_n x.1 x.2.1 dd_md_state_0 rfl (lv_at hl 0 rfl) ?_
  refine lv_iload_n x.1 x.2.1 dd_md_state_1 rfl (lv_at hl 1 rfl) ?_
  by_cases hq0 : k0 < 0 ∨ nI 25 ≤ k0
  · skip
    refine mp_call x (wt_mv base) hG hB hl.1 (mp_invS (av := [.int k0]) x mn_md_isShop mc_md_isShop (Or.inl ww_822) ww_823 ww_60 rfl dd_md_state_2) (kk_M_isShop_no hq0) (Nat.le_trans (Nat.le_of_ble_eq_true rfl) hfr) (Nat.le_trans (Nat.le_of_ble_eq_true rfl) hlo) (Nat.le_trans (Nat.le_of_ble_eq_true rfl) hce) (Nat.le_trans (Nat.le_of_ble_eq_true rfl) hsl) hH hS (fun v σa t0 H locs hp543 ht0 hvm hzz hH hS => ?_) (fun _ _ _ _ _ hz _ _ _ _ _ => by cases hz.1)
    obtain ⟨ho, hσ⟩ := hp543
    cases ho
    rw [hσ] at hH
    refine W.eq (g2 := F0 m 5 ls [.int (nI 0), .ref (ad 13 0)]) rfl ?_
    refine lv_if_eq (tgt := 15) x.1 x.2.1 dd_md_state_5 (by decide) (fun c544 => ?_) (fun c544 => absurd (by decide +kernel) c544)
    refine lv_iconst (v := nI 1) x.1 x.2.1 dd_md_state_15 (by decide +kernel) ?_
    refine lv_goto (tgt := 20) x.1 x.2.1 dd_md_state_16 (by decide) ?_
    refine lv_iconst (v := nI 1) x.1 x.2.1 dd_md_state_20 (by decide +kernel) ?_
    refine mp_call x (wt_mv base) hG hB hl.1 (mp_invV (av := [.int (nI 1), .int (nI 1)]) x hH (la13 hL) rfl rfl mn_md_fails mc_md_fails (Or.inl ww_814) ww_816 ww_41 rfl dd_md_state_21) (kk_M_fails1 hL) (Nat.le_trans (Nat.le_of_ble_eq_true rfl) hfr) (Nat.le_trans (Nat.le_of_ble_eq_true rfl) hlo) (Nat.le_trans (Nat.le_of_ble_eq_true rfl) hce) (Nat.le_trans (Nat.le_of_ble_eq_true rfl) hsl) hH hS (fun v σa t0 H locs hp545 ht0 hvm hzz hH hS => ?_) (fun _ _ _ _ _ hz _ _ _ _ _ => by cases hz.1)
    obtain ⟨ho, hL⟩ := hp545
    cases ho
    refine W.eq (g2 := F0 m 24 ls [.int (nI 1)]) rfl ?_
    refine lv_if_eq (tgt := 29) x.1 x.2.1 dd_md_state_24 (by decide) (fun c546 => absurd c546 (by decide +kernel)) (fun c546 => ?_)
    refine lv_iconst (v := nI 0) x.1 x.2.1 dd_md_state_27 (by decide +kernel) ?_
    exact mp_ri x hr hlk (by decide) (by decide) hH hS (fun _ => ⟨rfl, hL⟩) dd_md_state_28
  · skip
    refine mp_call x (wt_mv base) hG hB hl.1 (mp_invS (av := [.int k0]) x mn_md_isShop mc_md_isShop (Or.inl ww_822) ww_823 ww_60 rfl dd_md_state_2) (kk_M_isShop_ok hq0) (Nat.le_trans (Nat.le_of_ble_eq_true rfl) hfr) (Nat.le_trans (Nat.le_of_ble_eq_true rfl) hlo) (Nat.le_trans (Nat.le_of_ble_eq_true rfl) hce) (Nat.le_trans (Nat.le_of_ble_eq_true rfl) hsl) hH hS (fun v σa t0 H locs hp547 ht0 hvm hzz hH hS => ?_) (fun _ _ _ _ _ hz _ _ _ _ _ => by cases hz.1)
    obtain ⟨ho, hσ⟩ := hp547
    cases ho
    rw [hσ] at hH
    refine W.eq (g2 := F0 m 5 ls [.int (nI 1), .ref (ad 13 0)]) rfl ?_
    refine lv_if_eq (tgt := 15) x.1 x.2.1 dd_md_state_5 (by decide) (fun c548 => absurd c548 (by decide +kernel)) (fun c548 => ?_)
    refine lv_iload_n x.1 x.2.1 dd_md_state_8 rfl (lv_at hl 2 rfl) ?_
    by_cases hq1 : k1 < 0 ∨ nI 20 ≤ k1
    · skip
      refine mp_call x (wt_mv base) hG hB hl.1 (mp_invS (av := [.int k1]) x mn_md_isPrescription mc_md_isPrescription (Or.inl ww_808) ww_809 ww_60 rfl dd_md_state_9) (kk_M_isPrescription_no hq1) (Nat.le_trans (Nat.le_of_ble_eq_true rfl) hfr) (Nat.le_trans (Nat.le_of_ble_eq_true rfl) hlo) (Nat.le_trans (Nat.le_of_ble_eq_true rfl) hce) (Nat.le_trans (Nat.le_of_ble_eq_true rfl) hsl) hH hS (fun v σa t0 H locs hp549 ht0 hvm hzz hH hS => ?_) (fun _ _ _ _ _ hz _ _ _ _ _ => by cases hz.1)
      obtain ⟨ho, hσ⟩ := hp549
      cases ho
      rw [hσ] at hH
      refine W.eq (g2 := F0 m 12 ls [.int (nI 0), .ref (ad 13 0)]) rfl ?_
      refine lv_if_ne (tgt := 19) x.1 x.2.1 dd_md_state_12 (by decide) (fun c550 => absurd (by decide +kernel) c550) (fun c550 => ?_)
      refine lv_iconst (v := nI 1) x.1 x.2.1 dd_md_state_15 (by decide +kernel) ?_
      refine lv_goto (tgt := 20) x.1 x.2.1 dd_md_state_16 (by decide) ?_
      refine lv_iconst (v := nI 1) x.1 x.2.1 dd_md_state_20 (by decide +kernel) ?_
      refine mp_call x (wt_mv base) hG hB hl.1 (mp_invV (av := [.int (nI 1), .int (nI 1)]) x hH (la13 hL) rfl rfl mn_md_fails mc_md_fails (Or.inl ww_814) ww_816 ww_41 rfl dd_md_state_21) (kk_M_fails1 hL) (Nat.le_trans (Nat.le_of_ble_eq_true rfl) hfr) (Nat.le_trans (Nat.le_of_ble_eq_true rfl) hlo) (Nat.le_trans (Nat.le_of_ble_eq_true rfl) hce) (Nat.le_trans (Nat.le_of_ble_eq_true rfl) hsl) hH hS (fun v σa t0 H locs hp551 ht0 hvm hzz hH hS => ?_) (fun _ _ _ _ _ hz _ _ _ _ _ => by cases hz.1)
      obtain ⟨ho, hL⟩ := hp551
      cases ho
      refine W.eq (g2 := F0 m 24 ls [.int (nI 1)]) rfl ?_
      refine lv_if_eq (tgt := 29) x.1 x.2.1 dd_md_state_24 (by decide) (fun c552 => absurd c552 (by decide +kernel)) (fun c552 => ?_)
      refine lv_iconst (v := nI 0) x.1 x.2.1 dd_md_state_27 (by decide +kernel) ?_
      exact mp_ri x hr hlk (by decide) (by decide) hH hS (fun _ => ⟨rfl, hL⟩) dd_md_state_28
    · skip
      exact (hQ.elim hq0 hq1).elim
set_option maxRecDepth 100000 in
set_option maxHeartbeats 4000000 in
theorem kk_MX_granted_1 {l : Launch} {D : va_G} {ar : Nat → ClassId} {base : Nat} {σ : mp_M} {ad : Nat → Nat → Nat} {rg : Nat → Bool} {pl : Nat → Nat} {V M : fV} {k0 k1 k2 k3 : Int32} (hL : Lay ar ad rg pl V M σ) (hQ : (k0 < 0 ∨ nI 25 ≤ k0) ∨ (k1 < 0 ∨ nI 20 ≤ k1) ∨ (k2 - nI 1 < 0 ∨ nI 12 ≤ k2 - nI 1)) : CN l D ar base yy_md_granted prog_9_method_31_code 6 (Option.some Jvm.ClassFile.FieldType.int) [] 2 26 0 0 [.ref (ad 13 0), .int k0, .int k1, .int k2, .int k3] σ (fun o σ' _ => o = .returned (some (.int (nI 0))) ∧ Lay ar ad rg pl V (mu M 27 0 (nI 1)) σ') := by
  refine mp_in (Nat.le_of_ble_eq_true rfl) ?_
  intro p e R s m below meth c x hfr hlo hce hsl hr hlk hin hex hG hB ls H hH0 hH hS hl
  have hl : lv_has ls 6 [(0, .ref (ad 13 0)), (1, .int k0), (2, .int k1), (3, .int k2), (4, .int k3)] := hl
  refine lv_aload_n x.1 x.2.1 dd_md_granted_0 rfl (lv_at hl 0 rfl) ?_
  refine lv_iload_n x.1 x.2.1 dd_md_granted_1 rfl (lv_at hl 1 rfl) ?_
  by_cases hq0 : k0 < 0 ∨ nI 25 ≤ k0
  · skip
    refine mp_call x (wt_mv base) hG hB hl.1 (mp_invS (av := [.int k0]) x mn_md_isShop mc_md_isShop (Or.inl ww_822) ww_823 ww_60 rfl dd_md_granted_2) (kk_M_isShop_no hq0) (Nat.le_trans (Nat.le_of_ble_eq_true rfl) hfr) (Nat.le_trans (Nat.le_of_ble_eq_true rfl) hlo) (Nat.le_trans (Nat.le_of_ble_eq_true rfl) hce) (Nat.le_trans (Nat.le_of_ble_eq_true rfl) hsl) hH hS (fun v σa t0 H locs hp553 ht0 hvm hzz hH hS => ?_) (fun _ _ _ _ _ hz _ _ _ _ _ => by cases hz.1)
    obtain ⟨ho, hσ⟩ := hp553
    cases ho
    rw [hσ] at hH
    refine W.eq (g2 := F0 m 5 ls [.int (nI 0), .ref (ad 13 0)]) rfl ?_
    refine lv_if_eq (tgt := 26) x.1 x.2.1 dd_md_granted_5 (by decide) (fun c554 => ?_) (fun c554 => absurd (by decide +kernel) c554)
    refine lv_iconst (v := nI 1) x.1 x.2.1 dd_md_granted_26 (by decide +kernel) ?_
    refine lv_goto (tgt := 31) x.1 x.2.1 dd_md_granted_27 (by decide) ?_
    refine lv_iconst (v := nI 1) x.1 x.2.1 dd_md_granted_31 (by decide +kernel) ?_
    refine mp_call x (wt_mv base) hG hB hl.1 (mp_invV (av := [.int (nI 1), .int (nI 1)]) x hH (la13 hL) rfl rfl mn_md_fails mc_md_fails (Or.inl ww_814) ww_816 ww_41 rfl dd_md_granted_32) (kk_M_fails1 hL) (Nat.le_trans (Nat.le_of_ble_eq_true rfl) hfr) (Nat.le_trans (Nat.le_of_ble_eq_true rfl) hlo) (Nat.le_trans (Nat.le_of_ble_eq_true rfl) hce) (Nat.le_trans (Nat.le_of_ble_eq_true rfl) hsl) hH hS (fun v σa t0 H locs hp555 ht0 hvm hzz hH hS => ?_) (fun _ _ _ _ _ hz _ _ _ _ _ => by cases hz.1)
    obtain ⟨ho, hL⟩ := hp555
    cases ho
    refine W.eq (g2 := F0 m 35 ls [.int (nI 1)]) rfl ?_
    refine lv_if_eq (tgt := 40) x.1 x.2.1 dd_md_granted_35 (by decide) (fun c556 => absurd c556 (by decide +kernel)) (fun c556 => ?_)
    refine lv_iconst (v := nI 0) x.1 x.2.1 dd_md_granted_38 (by decide +kernel) ?_
    exact mp_ri x hr hlk (by decide) (by decide) hH hS (fun _ => ⟨rfl, hL⟩) dd_md_granted_39
  · skip
    refine mp_call x (wt_mv base) hG hB hl.1 (mp_invS (av := [.int k0]) x mn_md_isShop mc_md_isShop (Or.inl ww_822) ww_823 ww_60 rfl dd_md_granted_2) (kk_M_isShop_ok hq0) (Nat.le_trans (Nat.le_of_ble_eq_true rfl) hfr) (Nat.le_trans (Nat.le_of_ble_eq_true rfl) hlo) (Nat.le_trans (Nat.le_of_ble_eq_true rfl) hce) (Nat.le_trans (Nat.le_of_ble_eq_true rfl) hsl) hH hS (fun v σa t0 H locs hp557 ht0 hvm hzz hH hS => ?_) (fun _ _ _ _ _ hz _ _ _ _ _ => by cases hz.1)
    obtain ⟨ho, hσ⟩ := hp557
    cases ho
    rw [hσ] at hH
    refine W.eq (g2 := F0 m 5 ls [.int (nI 1), .ref (ad 13 0)]) rfl ?_
    refine lv_if_eq (tgt := 26) x.1 x.2.1 dd_md_granted_5 (by decide) (fun c558 => absurd c558 (by decide +kernel)) (fun c558 => ?_)
    refine lv_iload_n x.1 x.2.1 dd_md_granted_8 rfl (lv_at hl 2 rfl) ?_
    by_cases hq1 : k1 < 0 ∨ nI 20 ≤ k1
    · skip
      refine mp_call x (wt_mv base) hG hB hl.1 (mp_invS (av := [.int k1]) x mn_md_isPrescription mc_md_isPrescription (Or.inl ww_808) ww_809 ww_60 rfl dd_md_granted_9) (kk_M_isPrescription_no hq1) (Nat.le_trans (Nat.le_of_ble_eq_true rfl) hfr) (Nat.le_trans (Nat.le_of_ble_eq_true rfl) hlo) (Nat.le_trans (Nat.le_of_ble_eq_true rfl) hce) (Nat.le_trans (Nat.le_of_ble_eq_true rfl) hsl) hH hS (fun v σa t0 H locs hp559 ht0 hvm hzz hH hS => ?_) (fun _ _ _ _ _ hz _ _ _ _ _ => by cases hz.1)
      obtain ⟨ho, hσ⟩ := hp559
      cases ho
      rw [hσ] at hH
      refine W.eq (g2 := F0 m 12 ls [.int (nI 0), .ref (ad 13 0)]) rfl ?_
      refine lv_if_eq (tgt := 26) x.1 x.2.1 dd_md_granted_12 (by decide) (fun c560 => ?_) (fun c560 => absurd (by decide +kernel) c560)
      refine lv_iconst (v := nI 1) x.1 x.2.1 dd_md_granted_26 (by decide +kernel) ?_
      refine lv_goto (tgt := 31) x.1 x.2.1 dd_md_granted_27 (by decide) ?_
      refine lv_iconst (v := nI 1) x.1 x.2.1 dd_md_granted_31 (by decide +kernel) ?_
      refine mp_call x (wt_mv base) hG hB hl.1 (mp_invV (av := [.int (nI 1), .int (nI 1)]) x hH (la13 hL) rfl rfl mn_md_fails mc_md_fails (Or.inl ww_814) ww_816 ww_41 rfl dd_md_granted_32) (kk_M_fails1 hL) (Nat.le_trans (Nat.le_of_ble_eq_true rfl) hfr) (Nat.le_trans (Nat.le_of_ble_eq_true rfl) hlo) (Nat.le_trans (Nat.le_of_ble_eq_true rfl) hce) (Nat.le_trans (Nat.le_of_ble_eq_true rfl) hsl) hH hS (fun v σa t0 H locs hp561 ht0 hvm hzz hH hS => ?_) (fun _ _ _ _ _ hz _ _ _ _ _ => by cases hz.1)
      obtain ⟨ho, hL⟩ := hp561
      cases ho
      refine W.eq (g2 := F0 m 35 ls [.int (nI 1)]) rfl ?_
      refine lv_if_eq (tgt := 40) x.1 x.2.1 dd_md_granted_35 (by decide) (fun c562 => absurd c562 (by decide +kernel)) (fun c562 => ?_)
      refine lv_iconst (v := nI 0) x.1 x.2.1 dd_md_granted_38 (by decide +kernel) ?_
      exact mp_ri x hr hlk (by decide) (by decide) hH hS (fun _ => ⟨rfl, hL⟩) dd_md_granted_39
    · skip
      refine mp_call x (wt_mv base) hG hB hl.1 (mp_invS (av := [.int k1]) x mn_md_isPrescription mc_md_isPrescription (Or.inl ww_808) ww_809 ww_60 rfl dd_md_granted_9) (kk_M_isPrescription_ok hq1) (Nat.le_trans (Nat.le_of_ble_eq_true rfl) hfr) (Nat.le_trans (Nat.le_of_ble_eq_true rfl) hlo) (Nat.le_trans (Nat.le_of_ble_eq_true rfl) hce) (Nat.le_trans (Nat.le_of_ble_eq_true rfl) hsl) hH hS (fun v σa t0 H locs hp563 ht0 hvm hzz hH hS => ?_) (fun _ _ _ _ _ hz _ _ _ _ _ => by cases hz.1)
      obtain ⟨ho, hσ⟩ := hp563
      cases ho
      rw [hσ] at hH
      refine W.eq (g2 := F0 m 12 ls [.int (nI 1), .ref (ad 13 0)]) rfl ?_
      refine lv_if_eq (tgt := 26) x.1 x.2.1 dd_md_granted_12 (by decide) (fun c564 => absurd c564 (by decide +kernel)) (fun c564 => ?_)
      refine lv_iload_n x.1 x.2.1 dd_md_granted_15 rfl (lv_at hl 3 rfl) ?_
      refine lv_iconst (v := nI 1) x.1 x.2.1 dd_md_granted_16 (by decide +kernel) ?_
      refine lv_isub x.1 x.2.1 dd_md_granted_17 ?_
      refine lv_bipush (v := nI 12) x.1 x.2.1 dd_md_granted_18 (by decide +kernel) ?_
      by_cases hq2 : k2 - nI 1 < 0 ∨ nI 12 ≤ k2 - nI 1
      · skip
        refine mp_call x (wt_mv base) hG hB hl.1 (mp_invS (av := [.int (k2 - (nI 1)), .int (nI 12)]) x mn_md_within mc_md_within (Or.inl ww_811) ww_812 ww_60 rfl dd_md_granted_20) (kk_M_within_no hq2) (Nat.le_trans (Nat.le_of_ble_eq_true rfl) hfr) (Nat.le_trans (Nat.le_of_ble_eq_true rfl) hlo) (Nat.le_trans (Nat.le_of_ble_eq_true rfl) hce) (Nat.le_trans (Nat.le_of_ble_eq_true rfl) hsl) hH hS (fun v σa t0 H locs hp565 ht0 hvm hzz hH hS => ?_) (fun _ _ _ _ _ hz _ _ _ _ _ => by cases hz.1)
        obtain ⟨ho, hσ⟩ := hp565
        cases ho
        rw [hσ] at hH
        refine W.eq (g2 := F0 m 23 ls [.int (nI 0), .ref (ad 13 0)]) rfl ?_
        refine lv_if_ne (tgt := 30) x.1 x.2.1 dd_md_granted_23 (by decide) (fun c566 => absurd (by decide +kernel) c566) (fun c566 => ?_)
        refine lv_iconst (v := nI 1) x.1 x.2.1 dd_md_granted_26 (by decide +kernel) ?_
        refine lv_goto (tgt := 31) x.1 x.2.1 dd_md_granted_27 (by decide) ?_
        refine lv_iconst (v := nI 1) x.1 x.2.1 dd_md_granted_31 (by decide +kernel) ?_
        refine mp_call x (wt_mv base) hG hB hl.1 (mp_invV (av := [.int (nI 1), .int (nI 1)]) x hH (la13 hL) rfl rfl mn_md_fails mc_md_fails (Or.inl ww_814) ww_816 ww_41 rfl dd_md_granted_32) (kk_M_fails1 hL) (Nat.le_trans (Nat.le_of_ble_eq_true rfl) hfr) (Nat.le_trans (Nat.le_of_ble_eq_true rfl) hlo) (Nat.le_trans (Nat.le_of_ble_eq_true rfl) hce) (Nat.le_trans (Nat.le_of_ble_eq_true rfl) hsl) hH hS (fun v σa t0 H locs hp567 ht0 hvm hzz hH hS => ?_) (fun _ _ _ _ _ hz _ _ _ _ _ => by cases hz.1)
        obtain ⟨ho, hL⟩ := hp567
        cases ho
        refine W.eq (g2 := F0 m 35 ls [.int (nI 1)]) rfl ?_
        refine lv_if_eq (tgt := 40) x.1 x.2.1 dd_md_granted_35 (by decide) (fun c568 => absurd c568 (by decide +kernel)) (fun c568 => ?_)
        refine lv_iconst (v := nI 0) x.1 x.2.1 dd_md_granted_38 (by decide +kernel) ?_
        exact mp_ri x hr hlk (by decide) (by decide) hH hS (fun _ => ⟨rfl, hL⟩) dd_md_granted_39
      · skip
        exact (hQ.elim hq0 (fun z => z.elim hq1 hq2)).elim
set_option maxRecDepth 100000 in
set_option maxHeartbeats 4000000 in
theorem kk_MX_kept_1 {l : Launch} {D : va_G} {ar : Nat → ClassId} {base : Nat} {σ : mp_M} {ad : Nat → Nat → Nat} {rg : Nat → Bool} {pl : Nat → Nat} {V M : fV} {k0 k1 k2 : Int32} (hL : Lay ar ad rg pl V M σ) (hQ : (k0 < 0 ∨ nI 25 ≤ k0) ∨ (k1 < 0 ∨ nI 20 ≤ k1) ∨ (k2 < 0 ∨ nI 9 ≤ k2)) : CN l D ar base yy_md_kept prog_9_method_32_code 7 (Option.some Jvm.ClassFile.FieldType.int) [] 2 26 0 0 [.ref (ad 13 0), .int k0, .int k1, .int k2] σ (fun o σ' _ => o = .returned (some (.int (nI 0))) ∧ Lay ar ad rg pl V (mu M 27 0 (nI 1)) σ') := by
  refine mp_in (Nat.le_of_ble_eq_true rfl) ?_
  intro p e R s m below meth c x hfr hlo hce hsl hr hlk hin hex hG hB ls H hH0 hH hS hl
  have hl : lv_has ls 7 [(0, .ref (ad 13 0)), (1, .int k0), (2, .int k1), (3, .int k2)] := hl
  refine lv_aload_n x.1 x.2.1 dd_md_kept_0 rfl (lv_at hl 0 rfl) ?_
  refine lv_iload_n x.1 x.2.1 dd_md_kept_1 rfl (lv_at hl 1 rfl) ?_
  by_cases hq0 : k0 < 0 ∨ nI 25 ≤ k0
  · skip
    refine mp_call x (wt_mv base) hG hB hl.1 (mp_invS (av := [.int k0]) x mn_md_isShop mc_md_isShop (Or.inl ww_822) ww_823 ww_60 rfl dd_md_kept_2) (kk_M_isShop_no hq0) (Nat.le_trans (Nat.le_of_ble_eq_true rfl) hfr) (Nat.le_trans (Nat.le_of_ble_eq_true rfl) hlo) (Nat.le_trans (Nat.le_of_ble_eq_true rfl) hce) (Nat.le_trans (Nat.le_of_ble_eq_true rfl) hsl) hH hS (fun v σa t0 H locs hp569 ht0 hvm hzz hH hS => ?_) (fun _ _ _ _ _ hz _ _ _ _ _ => by cases hz.1)
    obtain ⟨ho, hσ⟩ := hp569
    cases ho
    rw [hσ] at hH
    refine W.eq (g2 := F0 m 5 ls [.int (nI 0), .ref (ad 13 0)]) rfl ?_
    refine lv_if_eq (tgt := 24) x.1 x.2.1 dd_md_kept_5 (by decide) (fun c570 => ?_) (fun c570 => absurd (by decide +kernel) c570)
    refine lv_iconst (v := nI 1) x.1 x.2.1 dd_md_kept_24 (by decide +kernel) ?_
    refine lv_goto (tgt := 29) x.1 x.2.1 dd_md_kept_25 (by decide) ?_
    refine lv_iconst (v := nI 1) x.1 x.2.1 dd_md_kept_29 (by decide +kernel) ?_
    refine mp_call x (wt_mv base) hG hB hl.1 (mp_invV (av := [.int (nI 1), .int (nI 1)]) x hH (la13 hL) rfl rfl mn_md_fails mc_md_fails (Or.inl ww_814) ww_816 ww_41 rfl dd_md_kept_30) (kk_M_fails1 hL) (Nat.le_trans (Nat.le_of_ble_eq_true rfl) hfr) (Nat.le_trans (Nat.le_of_ble_eq_true rfl) hlo) (Nat.le_trans (Nat.le_of_ble_eq_true rfl) hce) (Nat.le_trans (Nat.le_of_ble_eq_true rfl) hsl) hH hS (fun v σa t0 H locs hp571 ht0 hvm hzz hH hS => ?_) (fun _ _ _ _ _ hz _ _ _ _ _ => by cases hz.1)
    obtain ⟨ho, hL⟩ := hp571
    cases ho
    refine W.eq (g2 := F0 m 33 ls [.int (nI 1)]) rfl ?_
    refine lv_if_eq (tgt := 38) x.1 x.2.1 dd_md_kept_33 (by decide) (fun c572 => absurd c572 (by decide +kernel)) (fun c572 => ?_)
    refine lv_iconst (v := nI 0) x.1 x.2.1 dd_md_kept_36 (by decide +kernel) ?_
    exact mp_ri x hr hlk (by decide) (by decide) hH hS (fun _ => ⟨rfl, hL⟩) dd_md_kept_37
  · skip
    refine mp_call x (wt_mv base) hG hB hl.1 (mp_invS (av := [.int k0]) x mn_md_isShop mc_md_isShop (Or.inl ww_822) ww_823 ww_60 rfl dd_md_kept_2) (kk_M_isShop_ok hq0) (Nat.le_trans (Nat.le_of_ble_eq_true rfl) hfr) (Nat.le_trans (Nat.le_of_ble_eq_true rfl) hlo) (Nat.le_trans (Nat.le_of_ble_eq_true rfl) hce) (Nat.le_trans (Nat.le_of_ble_eq_true rfl) hsl) hH hS (fun v σa t0 H locs hp573 ht0 hvm hzz hH hS => ?_) (fun _ _ _ _ _ hz _ _ _ _ _ => by cases hz.1)
    obtain ⟨ho, hσ⟩ := hp573
    cases ho
    rw [hσ] at hH
    refine W.eq (g2 := F0 m 5 ls [.int (nI 1), .ref (ad 13 0)]) rfl ?_
    refine lv_if_eq (tgt := 24) x.1 x.2.1 dd_md_kept_5 (by decide) (fun c574 => absurd c574 (by decide +kernel)) (fun c574 => ?_)
    refine lv_iload_n x.1 x.2.1 dd_md_kept_8 rfl (lv_at hl 2 rfl) ?_
    by_cases hq1 : k1 < 0 ∨ nI 20 ≤ k1
    · skip
      refine mp_call x (wt_mv base) hG hB hl.1 (mp_invS (av := [.int k1]) x mn_md_isPrescription mc_md_isPrescription (Or.inl ww_808) ww_809 ww_60 rfl dd_md_kept_9) (kk_M_isPrescription_no hq1) (Nat.le_trans (Nat.le_of_ble_eq_true rfl) hfr) (Nat.le_trans (Nat.le_of_ble_eq_true rfl) hlo) (Nat.le_trans (Nat.le_of_ble_eq_true rfl) hce) (Nat.le_trans (Nat.le_of_ble_eq_true rfl) hsl) hH hS (fun v σa t0 H locs hp575 ht0 hvm hzz hH hS => ?_) (fun _ _ _ _ _ hz _ _ _ _ _ => by cases hz.1)
      obtain ⟨ho, hσ⟩ := hp575
      cases ho
      rw [hσ] at hH
      refine W.eq (g2 := F0 m 12 ls [.int (nI 0), .ref (ad 13 0)]) rfl ?_
      refine lv_if_eq (tgt := 24) x.1 x.2.1 dd_md_kept_12 (by decide) (fun c576 => ?_) (fun c576 => absurd (by decide +kernel) c576)
      refine lv_iconst (v := nI 1) x.1 x.2.1 dd_md_kept_24 (by decide +kernel) ?_
      refine lv_goto (tgt := 29) x.1 x.2.1 dd_md_kept_25 (by decide) ?_
      refine lv_iconst (v := nI 1) x.1 x.2.1 dd_md_kept_29 (by decide +kernel) ?_
      refine mp_call x (wt_mv base) hG hB hl.1 (mp_invV (av := [.int (nI 1), .int (nI 1)]) x hH (la13 hL) rfl rfl mn_md_fails mc_md_fails (Or.inl ww_814) ww_816 ww_41 rfl dd_md_kept_30) (kk_M_fails1 hL) (Nat.le_trans (Nat.le_of_ble_eq_true rfl) hfr) (Nat.le_trans (Nat.le_of_ble_eq_true rfl) hlo) (Nat.le_trans (Nat.le_of_ble_eq_true rfl) hce) (Nat.le_trans (Nat.le_of_ble_eq_true rfl) hsl) hH hS (fun v σa t0 H locs hp577 ht0 hvm hzz hH hS => ?_) (fun _ _ _ _ _ hz _ _ _ _ _ => by cases hz.1)
      obtain ⟨ho, hL⟩ := hp577
      cases ho
      refine W.eq (g2 := F0 m 33 ls [.int (nI 1)]) rfl ?_
      refine lv_if_eq (tgt := 38) x.1 x.2.1 dd_md_kept_33 (by decide) (fun c578 => absurd c578 (by decide +kernel)) (fun c578 => ?_)
      refine lv_iconst (v := nI 0) x.1 x.2.1 dd_md_kept_36 (by decide +kernel) ?_
      exact mp_ri x hr hlk (by decide) (by decide) hH hS (fun _ => ⟨rfl, hL⟩) dd_md_kept_37
    · skip
      refine mp_call x (wt_mv base) hG hB hl.1 (mp_invS (av := [.int k1]) x mn_md_isPrescription mc_md_isPrescription (Or.inl ww_808) ww_809 ww_60 rfl dd_md_kept_9) (kk_M_isPrescription_ok hq1) (Nat.le_trans (Nat.le_of_ble_eq_true rfl) hfr) (Nat.le_trans (Nat.le_of_ble_eq_true rfl) hlo) (Nat.le_trans (Nat.le_of_ble_eq_true rfl) hce) (Nat.le_trans (Nat.le_of_ble_eq_true rfl) hsl) hH hS (fun v σa t0 H locs hp579 ht0 hvm hzz hH hS => ?_) (fun _ _ _ _ _ hz _ _ _ _ _ => by cases hz.1)
      obtain ⟨ho, hσ⟩ := hp579
      cases ho
      rw [hσ] at hH
      refine W.eq (g2 := F0 m 12 ls [.int (nI 1), .ref (ad 13 0)]) rfl ?_
      refine lv_if_eq (tgt := 24) x.1 x.2.1 dd_md_kept_12 (by decide) (fun c580 => absurd c580 (by decide +kernel)) (fun c580 => ?_)
      refine lv_iload_n x.1 x.2.1 dd_md_kept_15 rfl (lv_at hl 3 rfl) ?_
      refine lv_bipush (v := nI 9) x.1 x.2.1 dd_md_kept_16 (by decide +kernel) ?_
      by_cases hq2 : k2 < 0 ∨ nI 9 ≤ k2
      · skip
        refine mp_call x (wt_mv base) hG hB hl.1 (mp_invS (av := [.int k2, .int (nI 9)]) x mn_md_within mc_md_within (Or.inl ww_811) ww_812 ww_60 rfl dd_md_kept_18) (kk_M_within_no hq2) (Nat.le_trans (Nat.le_of_ble_eq_true rfl) hfr) (Nat.le_trans (Nat.le_of_ble_eq_true rfl) hlo) (Nat.le_trans (Nat.le_of_ble_eq_true rfl) hce) (Nat.le_trans (Nat.le_of_ble_eq_true rfl) hsl) hH hS (fun v σa t0 H locs hp581 ht0 hvm hzz hH hS => ?_) (fun _ _ _ _ _ hz _ _ _ _ _ => by cases hz.1)
        obtain ⟨ho, hσ⟩ := hp581
        cases ho
        rw [hσ] at hH
        refine W.eq (g2 := F0 m 21 ls [.int (nI 0), .ref (ad 13 0)]) rfl ?_
        refine lv_if_ne (tgt := 28) x.1 x.2.1 dd_md_kept_21 (by decide) (fun c582 => absurd (by decide +kernel) c582) (fun c582 => ?_)
        refine lv_iconst (v := nI 1) x.1 x.2.1 dd_md_kept_24 (by decide +kernel) ?_
        refine lv_goto (tgt := 29) x.1 x.2.1 dd_md_kept_25 (by decide) ?_
        refine lv_iconst (v := nI 1) x.1 x.2.1 dd_md_kept_29 (by decide +kernel) ?_
        refine mp_call x (wt_mv base) hG hB hl.1 (mp_invV (av := [.int (nI 1), .int (nI 1)]) x hH (la13 hL) rfl rfl mn_md_fails mc_md_fails (Or.inl ww_814) ww_816 ww_41 rfl dd_md_kept_30) (kk_M_fails1 hL) (Nat.le_trans (Nat.le_of_ble_eq_true rfl) hfr) (Nat.le_trans (Nat.le_of_ble_eq_true rfl) hlo) (Nat.le_trans (Nat.le_of_ble_eq_true rfl) hce) (Nat.le_trans (Nat.le_of_ble_eq_true rfl) hsl) hH hS (fun v σa t0 H locs hp583 ht0 hvm hzz hH hS => ?_) (fun _ _ _ _ _ hz _ _ _ _ _ => by cases hz.1)
        obtain ⟨ho, hL⟩ := hp583
        cases ho
        refine W.eq (g2 := F0 m 33 ls [.int (nI 1)]) rfl ?_
        refine lv_if_eq (tgt := 38) x.1 x.2.1 dd_md_kept_33 (by decide) (fun c584 => absurd c584 (by decide +kernel)) (fun c584 => ?_)
        refine lv_iconst (v := nI 0) x.1 x.2.1 dd_md_kept_36 (by decide +kernel) ?_
        exact mp_ri x hr hlk (by decide) (by decide) hH hS (fun _ => ⟨rfl, hL⟩) dd_md_kept_37
      · skip
        exact (hQ.elim hq0 (fun z => z.elim hq1 hq2)).elim
set_option maxRecDepth 100000 in
set_option maxHeartbeats 4000000 in
theorem kk_MX_total_1 {l : Launch} {D : va_G} {ar : Nat → ClassId} {base : Nat} {σ : mp_M} {ad : Nat → Nat → Nat} {rg : Nat → Bool} {pl : Nat → Nat} {V M : fV} {k0 : Int32} (hL : Lay ar ad rg pl V M σ) (hQ : (k0 < 0 ∨ nI 3 ≤ k0)) : CN l D ar base yy_md_total prog_9_method_34_code 2 (Option.some Jvm.ClassFile.FieldType.int) [] 1 14 0 0 [.ref (ad 13 0), .int k0] σ (fun o σ' _ => o = .returned (some (.int (nI 0))) ∧ Lay ar ad rg pl V (mu M 27 0 (nI 1)) σ') := by
  refine mp_in (Nat.le_of_ble_eq_true rfl) ?_
  intro p e R s m below meth c x hfr hlo hce hsl hr hlk hin hex hG hB ls H hH0 hH hS hl
  have hl : lv_has ls 2 [(0, .ref (ad 13 0)), (1, .int k0)] := hl
  refine lv_aload_n x.1 x.2.1 dd_md_total_0 rfl (lv_at hl 0 rfl) ?_
  refine lv_iload_n x.1 x.2.1 dd_md_total_1 rfl (lv_at hl 1 rfl) ?_
  refine lv_iconst (v := nI 3) x.1 x.2.1 dd_md_total_2 (by decide +kernel) ?_
  by_cases hq0 : k0 < 0 ∨ nI 3 ≤ k0
  · skip
    refine mp_call x (wt_mv base) hG hB hl.1 (mp_invS (av := [.int k0, .int (nI 3)]) x mn_md_within mc_md_within (Or.inl ww_811) ww_812 ww_60 rfl dd_md_total_3) (kk_M_within_no hq0) (Nat.le_trans (Nat.le_of_ble_eq_true rfl) hfr) (Nat.le_trans (Nat.le_of_ble_eq_true rfl) hlo) (Nat.le_trans (Nat.le_of_ble_eq_true rfl) hce) (Nat.le_trans (Nat.le_of_ble_eq_true rfl) hsl) hH hS (fun v σa t0 H locs hp585 ht0 hvm hzz hH hS => ?_) (fun _ _ _ _ _ hz _ _ _ _ _ => by cases hz.1)
    obtain ⟨ho, hσ⟩ := hp585
    cases ho
    rw [hσ] at hH
    refine W.eq (g2 := F0 m 6 ls [.int (nI 0), .ref (ad 13 0)]) rfl ?_
    refine lv_if_ne (tgt := 13) x.1 x.2.1 dd_md_total_6 (by decide) (fun c586 => absurd (by decide +kernel) c586) (fun c586 => ?_)
    refine lv_iconst (v := nI 1) x.1 x.2.1 dd_md_total_9 (by decide +kernel) ?_
    refine lv_goto (tgt := 14) x.1 x.2.1 dd_md_total_10 (by decide) ?_
    refine lv_iconst (v := nI 1) x.1 x.2.1 dd_md_total_14 (by decide +kernel) ?_
    refine mp_call x (wt_mv base) hG hB hl.1 (mp_invV (av := [.int (nI 1), .int (nI 1)]) x hH (la13 hL) rfl rfl mn_md_fails mc_md_fails (Or.inl ww_814) ww_816 ww_41 rfl dd_md_total_15) (kk_M_fails1 hL) (Nat.le_trans (Nat.le_of_ble_eq_true rfl) hfr) (Nat.le_trans (Nat.le_of_ble_eq_true rfl) hlo) (Nat.le_trans (Nat.le_of_ble_eq_true rfl) hce) (Nat.le_trans (Nat.le_of_ble_eq_true rfl) hsl) hH hS (fun v σa t0 H locs hp587 ht0 hvm hzz hH hS => ?_) (fun _ _ _ _ _ hz _ _ _ _ _ => by cases hz.1)
    obtain ⟨ho, hL⟩ := hp587
    cases ho
    refine W.eq (g2 := F0 m 18 ls [.int (nI 1)]) rfl ?_
    refine lv_if_eq (tgt := 23) x.1 x.2.1 dd_md_total_18 (by decide) (fun c588 => absurd c588 (by decide +kernel)) (fun c588 => ?_)
    refine lv_iconst (v := nI 0) x.1 x.2.1 dd_md_total_21 (by decide +kernel) ?_
    exact mp_ri x hr hlk (by decide) (by decide) hH hS (fun _ => ⟨rfl, hL⟩) dd_md_total_22
  · skip
    exact absurd hQ hq0
set_option maxRecDepth 100000 in
set_option maxHeartbeats 4000000 in
theorem kk_MX_register_0 {l : Launch} {D : va_G} {ar : Nat → ClassId} {base : Nat} {σ : mp_M} {ad : Nat → Nat → Nat} {rg : Nat → Bool} {pl : Nat → Nat} {V M : fV} {b0 c1 c2 : Nat} (hL : Lay ar ad rg pl V M σ) (hb : b0 < 20) (hc1 : 1 ≤ c1) (hc2 : c1 ≤ 12) (hc3 : c2 < 91) (hz : M 0 b0 = nI 0) : CN l D ar base yy_md_register prog_9_method_8_code 4 (Option.none : Option Jvm.ClassFile.FieldType) [] 2 26 0 0 [.ref (ad 13 0), .int (nI b0), .int (nI c1), .int (nI c2)] σ (fun o σ' _ => o = .returned none ∧ Lay ar ad rg pl V (mu (mu (mu (mu M 27 0 (nI 0)) 27 0 (nI 0)) 0 b0 (nI c1)) 1 b0 (nI c2)) σ') := by
  refine mp_in (Nat.le_of_ble_eq_true rfl) ?_
  intro p e R s m below meth c x hfr hlo hce hsl hr hlk hin hex hG hB ls H hH0 hH hS hl
  have hl : lv_has ls 4 [(0, .ref (ad 13 0)), (1, .int (nI b0)), (2, .int (nI c1)), (3, .int (nI c2))] := hl
  refine lv_aload_n x.1 x.2.1 dd_md_register_0 rfl (lv_at hl 0 rfl) ?_
  refine lv_iload_n x.1 x.2.1 dd_md_register_1 rfl (lv_at hl 1 rfl) ?_
  refine mp_call x (wt_mv base) hG hB hl.1 (mp_invS (av := [.int (nI b0)]) x mn_md_isPrescription mc_md_isPrescription (Or.inl ww_808) ww_809 ww_60 rfl dd_md_register_2) (kk_M_isPrescription_ok (in_ok (by omega) (by decide))) (Nat.le_trans (Nat.le_of_ble_eq_true rfl) hfr) (Nat.le_trans (Nat.le_of_ble_eq_true rfl) hlo) (Nat.le_trans (Nat.le_of_ble_eq_true rfl) hce) (Nat.le_trans (Nat.le_of_ble_eq_true rfl) hsl) hH hS (fun v σa t0 H locs hp600 ht0 hvm hzz hH hS => ?_) (fun _ _ _ _ _ hz _ _ _ _ _ => by cases hz.1)
  obtain ⟨ho, hσ⟩ := hp600
  cases ho
  rw [hσ] at hH
  refine W.eq (g2 := F0 m 5 ls [.int (nI 1), .ref (ad 13 0)]) rfl ?_
  refine lv_if_eq (tgt := 28) x.1 x.2.1 dd_md_register_5 (by decide) (fun c601 => absurd c601 (by decide +kernel)) (fun c601 => ?_)
  refine lv_iload_n x.1 x.2.1 dd_md_register_8 rfl (lv_at hl 2 rfl) ?_
  refine lv_iconst (v := nI 1) x.1 x.2.1 dd_md_register_9 (by decide +kernel) ?_
  refine lv_isub x.1 x.2.1 dd_md_register_10 ?_
  refine mn_top (w := nI (c1 - 1)) (pk_sub (by omega)) ?_
  refine lv_bipush (v := nI 12) x.1 x.2.1 dd_md_register_11 (by decide +kernel) ?_
  refine mp_call x (wt_mv base) hG hB hl.1 (mp_invS (av := [.int (nI (c1 - 1)), .int (nI 12)]) x mn_md_within mc_md_within (Or.inl ww_811) ww_812 ww_60 rfl dd_md_register_13) (kk_M_within_ok (in_ok (by omega) (by decide))) (Nat.le_trans (Nat.le_of_ble_eq_true rfl) hfr) (Nat.le_trans (Nat.le_of_ble_eq_true rfl) hlo) (Nat.le_trans (Nat.le_of_ble_eq_true rfl) hce) (Nat.le_trans (Nat.le_of_ble_eq_true rfl) hsl) hH hS (fun v σa t0 H locs hp602 ht0 hvm hzz hH hS => ?_) (fun _ _ _ _ _ hz _ _ _ _ _ => by cases hz.1)
  obtain ⟨ho, hσ⟩ := hp602
  cases ho
  rw [hσ] at hH
  refine W.eq (g2 := F0 m 16 ls [.int (nI 1), .ref (ad 13 0)]) rfl ?_
  refine lv_if_eq (tgt := 28) x.1 x.2.1 dd_md_register_16 (by decide) (fun c603 => absurd c603 (by decide +kernel)) (fun c603 => ?_)
  refine lv_iload_n x.1 x.2.1 dd_md_register_19 rfl (lv_at hl 3 rfl) ?_
  refine lv_bipush (v := nI 91) x.1 x.2.1 dd_md_register_20 (by decide +kernel) ?_
  refine mp_call x (wt_mv base) hG hB hl.1 (mp_invS (av := [.int (nI c2), .int (nI 91)]) x mn_md_within mc_md_within (Or.inl ww_811) ww_812 ww_60 rfl dd_md_register_22) (kk_M_within_ok (in_ok (by omega) (by decide))) (Nat.le_trans (Nat.le_of_ble_eq_true rfl) hfr) (Nat.le_trans (Nat.le_of_ble_eq_true rfl) hlo) (Nat.le_trans (Nat.le_of_ble_eq_true rfl) hce) (Nat.le_trans (Nat.le_of_ble_eq_true rfl) hsl) hH hS (fun v σa t0 H locs hp604 ht0 hvm hzz hH hS => ?_) (fun _ _ _ _ _ hz _ _ _ _ _ => by cases hz.1)
  obtain ⟨ho, hσ⟩ := hp604
  cases ho
  rw [hσ] at hH
  refine W.eq (g2 := F0 m 25 ls [.int (nI 1), .ref (ad 13 0)]) rfl ?_
  refine lv_if_ne (tgt := 32) x.1 x.2.1 dd_md_register_25 (by decide) (fun c605 => ?_) (fun c605 => absurd c605 (by decide +kernel))
  refine lv_iconst (v := nI 0) x.1 x.2.1 dd_md_register_32 (by decide +kernel) ?_
  refine lv_iconst (v := nI 1) x.1 x.2.1 dd_md_register_33 (by decide +kernel) ?_
  refine mp_call x (wt_mv base) hG hB hl.1 (mp_invV (av := [.int (nI 0), .int (nI 1)]) x hH (la13 hL) rfl rfl mn_md_fails mc_md_fails (Or.inl ww_814) ww_816 ww_41 rfl dd_md_register_34) (kk_M_fails0 hL) (Nat.le_trans (Nat.le_of_ble_eq_true rfl) hfr) (Nat.le_trans (Nat.le_of_ble_eq_true rfl) hlo) (Nat.le_trans (Nat.le_of_ble_eq_true rfl) hce) (Nat.le_trans (Nat.le_of_ble_eq_true rfl) hsl) hH hS (fun v σa t0 H locs hp606 ht0 hvm hzz hH hS => ?_) (fun _ _ _ _ _ hz _ _ _ _ _ => by cases hz.1)
  obtain ⟨ho, hL⟩ := hp606
  cases ho
  refine W.eq (g2 := F0 m 37 ls [.int (nI 0)]) rfl ?_
  refine lv_if_ne (tgt := 62) x.1 x.2.1 dd_md_register_37 (by decide) (fun c607 => absurd (by decide +kernel) c607) (fun c607 => ?_)
  refine lv_aload_n x.1 x.2.1 dd_md_register_40 rfl (lv_at hl 0 rfl) ?_
  refine lv_aload_n x.1 x.2.1 dd_md_register_41 rfl (lv_at hl 0 rfl) ?_
  refine mp_get x hH (la13 hL) fg_md_7 rfl dd_md_register_42 ?_
  refine lv_iload_n x.1 x.2.1 dd_md_register_45 rfl (lv_at hl 1 rfl) ?_
  refine ka_ld x hH hL 0 (j := b0) (by decide) (by decide) (show b0 < 20 from (by omega)) (by decide) dd_md_register_46 ?_
  refine mn_top (w := nI 0) ((mu_k (by decide)).trans (hz)) ?_
  refine lv_if_le (tgt := 54) x.1 x.2.1 dd_md_register_47 (by decide) (fun c608 => ?_) (fun c608 => absurd (by decide +kernel) c608)
  refine lv_iconst (v := nI 0) x.1 x.2.1 dd_md_register_54 (by decide +kernel) ?_
  refine lv_iconst (v := nI 2) x.1 x.2.1 dd_md_register_55 (by decide +kernel) ?_
  refine mp_call x (wt_mv base) hG hB hl.1 (mp_invV (av := [.int (nI 0), .int (nI 2)]) x hH (la13 hL) rfl rfl mn_md_fails mc_md_fails (Or.inl ww_814) ww_816 ww_41 rfl dd_md_register_56) (kk_M_fails0 hL) (Nat.le_trans (Nat.le_of_ble_eq_true rfl) hfr) (Nat.le_trans (Nat.le_of_ble_eq_true rfl) hlo) (Nat.le_trans (Nat.le_of_ble_eq_true rfl) hce) (Nat.le_trans (Nat.le_of_ble_eq_true rfl) hsl) hH hS (fun v σa t0 H locs hp609 ht0 hvm hzz hH hS => ?_) (fun _ _ _ _ _ hz _ _ _ _ _ => by cases hz.1)
  obtain ⟨ho, hL⟩ := hp609
  cases ho
  refine W.eq (g2 := F0 m 59 ls [.int (nI 0)]) rfl ?_
  refine lv_if_eq (tgt := 63) x.1 x.2.1 dd_md_register_59 (by decide) (fun c610 => ?_) (fun c610 => absurd (by decide +kernel) c610)
  refine lv_aload_n x.1 x.2.1 dd_md_register_63 rfl (lv_at hl 0 rfl) ?_
  refine mp_get x hH (la13 hL) fg_md_7 rfl dd_md_register_64 ?_
  refine lv_iload_n x.1 x.2.1 dd_md_register_67 rfl (lv_at hl 1 rfl) ?_
  refine lv_iload_n x.1 x.2.1 dd_md_register_68 rfl (lv_at hl 2 rfl) ?_
  refine ka_st x hH hS hL 0 (j := b0) (by decide) (by decide) (show b0 < 20 from (by omega)) (by decide) dd_md_register_69 (fun σ hL H locs hH hS => ?_)
  refine lv_aload_n x.1 x.2.1 dd_md_register_70 rfl (lv_at hl 0 rfl) ?_
  refine mp_get x hH (la13 hL) fg_md_13 rfl dd_md_register_71 ?_
  refine lv_iload_n x.1 x.2.1 dd_md_register_74 rfl (lv_at hl 1 rfl) ?_
  refine lv_iload_n x.1 x.2.1 dd_md_register_75 rfl (lv_at hl 3 rfl) ?_
  refine ka_st x hH hS hL 1 (j := b0) (by decide) (by decide) (show b0 < 20 from (by omega)) (by decide) dd_md_register_76 (fun σ hL H locs hH hS => ?_)
  exact mp_rv x hr hlk (by decide) (by decide) hH hS (fun _ => ⟨rfl, hL⟩) dd_md_register_77
set_option maxRecDepth 100000 in
set_option maxHeartbeats 4000000 in
theorem kk_MX_register_2 {l : Launch} {D : va_G} {ar : Nat → ClassId} {base : Nat} {σ : mp_M} {ad : Nat → Nat → Nat} {rg : Nat → Bool} {pl : Nat → Nat} {V M : fV} {b0 c1 c2 sp : Nat} (hL : Lay ar ad rg pl V M σ) (hb : b0 < 20) (hc1 : 1 ≤ c1) (hc2 : c1 ≤ 12) (hc3 : c2 < 91) (hz : M 0 b0 = nI sp) (hsp : 0 < sp) (hsp2 : sp < 2 ^ 31) : CN l D ar base yy_md_register prog_9_method_8_code 4 (Option.none : Option Jvm.ClassFile.FieldType) [] 2 26 0 0 [.ref (ad 13 0), .int (nI b0), .int (nI c1), .int (nI c2)] σ (fun o σ' _ => o = .returned none ∧ Lay ar ad rg pl V (mu (mu M 27 0 (nI 0)) 27 0 (nI 2)) σ') := by
  refine mp_in (Nat.le_of_ble_eq_true rfl) ?_
  intro p e R s m below meth c x hfr hlo hce hsl hr hlk hin hex hG hB ls H hH0 hH hS hl
  have hl : lv_has ls 4 [(0, .ref (ad 13 0)), (1, .int (nI b0)), (2, .int (nI c1)), (3, .int (nI c2))] := hl
  refine lv_aload_n x.1 x.2.1 dd_md_register_0 rfl (lv_at hl 0 rfl) ?_
  refine lv_iload_n x.1 x.2.1 dd_md_register_1 rfl (lv_at hl 1 rfl) ?_
  refine mp_call x (wt_mv base) hG hB hl.1 (mp_invS (av := [.int (nI b0)]) x mn_md_isPrescription mc_md_isPrescription (Or.inl ww_808) ww_809 ww_60 rfl dd_md_register_2) (kk_M_isPrescription_ok (in_ok (by omega) (by decide))) (Nat.le_trans (Nat.le_of_ble_eq_true rfl) hfr) (Nat.le_trans (Nat.le_of_ble_eq_true rfl) hlo) (Nat.le_trans (Nat.le_of_ble_eq_true rfl) hce) (Nat.le_trans (Nat.le_of_ble_eq_true rfl) hsl) hH hS (fun v σa t0 H locs hp622 ht0 hvm hzz hH hS => ?_) (fun _ _ _ _ _ hz _ _ _ _ _ => by cases hz.1)
  obtain ⟨ho, hσ⟩ := hp622
  cases ho
  rw [hσ] at hH
  refine W.eq (g2 := F0 m 5 ls [.int (nI 1), .ref (ad 13 0)]) rfl ?_
  refine lv_if_eq (tgt := 28) x.1 x.2.1 dd_md_register_5 (by decide) (fun c623 => absurd c623 (by decide +kernel)) (fun c623 => ?_)
  refine lv_iload_n x.1 x.2.1 dd_md_register_8 rfl (lv_at hl 2 rfl) ?_
  refine lv_iconst (v := nI 1) x.1 x.2.1 dd_md_register_9 (by decide +kernel) ?_
  refine lv_isub x.1 x.2.1 dd_md_register_10 ?_
  refine mn_top (w := nI (c1 - 1)) (pk_sub (by omega)) ?_
  refine lv_bipush (v := nI 12) x.1 x.2.1 dd_md_register_11 (by decide +kernel) ?_
  refine mp_call x (wt_mv base) hG hB hl.1 (mp_invS (av := [.int (nI (c1 - 1)), .int (nI 12)]) x mn_md_within mc_md_within (Or.inl ww_811) ww_812 ww_60 rfl dd_md_register_13) (kk_M_within_ok (in_ok (by omega) (by decide))) (Nat.le_trans (Nat.le_of_ble_eq_true rfl) hfr) (Nat.le_trans (Nat.le_of_ble_eq_true rfl) hlo) (Nat.le_trans (Nat.le_of_ble_eq_true rfl) hce) (Nat.le_trans (Nat.le_of_ble_eq_true rfl) hsl) hH hS (fun v σa t0 H locs hp624 ht0 hvm hzz hH hS => ?_) (fun _ _ _ _ _ hz _ _ _ _ _ => by cases hz.1)
  obtain ⟨ho, hσ⟩ := hp624
  cases ho
  rw [hσ] at hH
  refine W.eq (g2 := F0 m 16 ls [.int (nI 1), .ref (ad 13 0)]) rfl ?_
  refine lv_if_eq (tgt := 28) x.1 x.2.1 dd_md_register_16 (by decide) (fun c625 => absurd c625 (by decide +kernel)) (fun c625 => ?_)
  refine lv_iload_n x.1 x.2.1 dd_md_register_19 rfl (lv_at hl 3 rfl) ?_
  refine lv_bipush (v := nI 91) x.1 x.2.1 dd_md_register_20 (by decide +kernel) ?_
  refine mp_call x (wt_mv base) hG hB hl.1 (mp_invS (av := [.int (nI c2), .int (nI 91)]) x mn_md_within mc_md_within (Or.inl ww_811) ww_812 ww_60 rfl dd_md_register_22) (kk_M_within_ok (in_ok (by omega) (by decide))) (Nat.le_trans (Nat.le_of_ble_eq_true rfl) hfr) (Nat.le_trans (Nat.le_of_ble_eq_true rfl) hlo) (Nat.le_trans (Nat.le_of_ble_eq_true rfl) hce) (Nat.le_trans (Nat.le_of_ble_eq_true rfl) hsl) hH hS (fun v σa t0 H locs hp626 ht0 hvm hzz hH hS => ?_) (fun _ _ _ _ _ hz _ _ _ _ _ => by cases hz.1)
  obtain ⟨ho, hσ⟩ := hp626
  cases ho
  rw [hσ] at hH
  refine W.eq (g2 := F0 m 25 ls [.int (nI 1), .ref (ad 13 0)]) rfl ?_
  refine lv_if_ne (tgt := 32) x.1 x.2.1 dd_md_register_25 (by decide) (fun c627 => ?_) (fun c627 => absurd c627 (by decide +kernel))
  refine lv_iconst (v := nI 0) x.1 x.2.1 dd_md_register_32 (by decide +kernel) ?_
  refine lv_iconst (v := nI 1) x.1 x.2.1 dd_md_register_33 (by decide +kernel) ?_
  refine mp_call x (wt_mv base) hG hB hl.1 (mp_invV (av := [.int (nI 0), .int (nI 1)]) x hH (la13 hL) rfl rfl mn_md_fails mc_md_fails (Or.inl ww_814) ww_816 ww_41 rfl dd_md_register_34) (kk_M_fails0 hL) (Nat.le_trans (Nat.le_of_ble_eq_true rfl) hfr) (Nat.le_trans (Nat.le_of_ble_eq_true rfl) hlo) (Nat.le_trans (Nat.le_of_ble_eq_true rfl) hce) (Nat.le_trans (Nat.le_of_ble_eq_true rfl) hsl) hH hS (fun v σa t0 H locs hp628 ht0 hvm hzz hH hS => ?_) (fun _ _ _ _ _ hz _ _ _ _ _ => by cases hz.1)
  obtain ⟨ho, hL⟩ := hp628
  cases ho
  refine W.eq (g2 := F0 m 37 ls [.int (nI 0)]) rfl ?_
  refine lv_if_ne (tgt := 62) x.1 x.2.1 dd_md_register_37 (by decide) (fun c629 => absurd (by decide +kernel) c629) (fun c629 => ?_)
  refine lv_aload_n x.1 x.2.1 dd_md_register_40 rfl (lv_at hl 0 rfl) ?_
  refine lv_aload_n x.1 x.2.1 dd_md_register_41 rfl (lv_at hl 0 rfl) ?_
  refine mp_get x hH (la13 hL) fg_md_7 rfl dd_md_register_42 ?_
  refine lv_iload_n x.1 x.2.1 dd_md_register_45 rfl (lv_at hl 1 rfl) ?_
  refine ka_ld x hH hL 0 (j := b0) (by decide) (by decide) (show b0 < 20 from (by omega)) (by decide) dd_md_register_46 ?_
  refine mn_top (w := nI sp) ((mu_k (by decide)).trans (hz)) ?_
  refine lv_if_le (tgt := 54) x.1 x.2.1 dd_md_register_47 (by decide) (fun c630 => absurd c630 (fun h => absurd ((cv_le (a := sp) (b := 0) (by omega) (by omega)).mp h) (by omega))) (fun c630 => ?_)
  refine lv_iconst (v := nI 1) x.1 x.2.1 dd_md_register_50 (by decide +kernel) ?_
  refine lv_goto (tgt := 55) x.1 x.2.1 dd_md_register_51 (by decide) ?_
  refine lv_iconst (v := nI 2) x.1 x.2.1 dd_md_register_55 (by decide +kernel) ?_
  refine mp_call x (wt_mv base) hG hB hl.1 (mp_invV (av := [.int (nI 1), .int (nI 2)]) x hH (la13 hL) rfl rfl mn_md_fails mc_md_fails (Or.inl ww_814) ww_816 ww_41 rfl dd_md_register_56) (kk_M_fails1 hL) (Nat.le_trans (Nat.le_of_ble_eq_true rfl) hfr) (Nat.le_trans (Nat.le_of_ble_eq_true rfl) hlo) (Nat.le_trans (Nat.le_of_ble_eq_true rfl) hce) (Nat.le_trans (Nat.le_of_ble_eq_true rfl) hsl) hH hS (fun v σa t0 H locs hp631 ht0 hvm hzz hH hS => ?_) (fun _ _ _ _ _ hz _ _ _ _ _ => by cases hz.1)
  obtain ⟨ho, hL⟩ := hp631
  cases ho
  refine W.eq (g2 := F0 m 59 ls [.int (nI 1)]) rfl ?_
  refine lv_if_eq (tgt := 63) x.1 x.2.1 dd_md_register_59 (by decide) (fun c632 => absurd c632 (by decide +kernel)) (fun c632 => ?_)
  exact mp_rv x hr hlk (by decide) (by decide) hH hS (fun _ => ⟨rfl, hL⟩) dd_md_register_62
set_option maxRecDepth 100000 in
set_option maxHeartbeats 4000000 in
theorem kk_MX_ask_0 {l : Launch} {D : va_G} {ar : Nat → ClassId} {base : Nat} {σ : mp_M} {ad : Nat → Nat → Nat} {rg : Nat → Bool} {pl : Nat → Nat} {V M : fV} {a0 b0 a q0 n dc sp g pr nx : Nat} (hL : Lay ar ad rg pl V M σ) (hA : 20 * a0 + b0 = a) (ha : a0 < 25) (hb : b0 < 20) (hq0 : q0 ≤ 100000) (hn : M 22 0 = nI n) (hn2 : n ≤ 100) (hdc : M 3 a = nI dc) (hdl : dc ≤ 12) (hz : M 0 b0 = nI sp) (hsp : dc < sp) (hsp2 : sp ≤ 12) (hdn : M 2 a0 = nI 0) (hday : 0 < dc → ¬ nI q0 < M 10 (12 * a + dc - 1) + M 1 b0) (h1 : M 8 a = nI g) (h2 : M 4 a = nI pr) (hg : g < 2 ^ 30) (hp : pr < 2 ^ 30) (hnx : nxt (mx g (mx pr 0)) a0 = nx) : CN l D ar base yy_md_ask prog_9_method_14_code 6 (Option.some Jvm.ClassFile.FieldType.int) [] 3 55 0 0 [.ref (ad 13 0), .int (nI a0), .int (nI b0), .int (nI q0)] σ (fun o σ' _ => o = .returned (some (.int (if nx = 0 then nI 0 else nI 25))) ∧ Lay ar ad rg pl V (mrd (mu (mu (mu (mu (mse (mu (mu M 27 0 (nI 0)) 27 0 (nI 0)) a) 11 a (nI (dc + 1))) 12 a (nI a0)) 13 a (nI q0)) 20 a (nI 0)) n a dc a0 b0 nx) σ') := by
  refine mp_in (Nat.le_of_ble_eq_true rfl) ?_
  intro p e R s m below meth c x hfr hlo hce hsl hr hlk hin hex hG hB ls H hH0 hH hS hl
  have hl : lv_has ls 6 [(0, .ref (ad 13 0)), (1, .int (nI a0)), (2, .int (nI b0)), (3, .int (nI q0))] := hl
  refine lv_aload_n x.1 x.2.1 dd_md_ask_0 rfl (lv_at hl 0 rfl) ?_
  refine lv_iload_n x.1 x.2.1 dd_md_ask_1 rfl (lv_at hl 1 rfl) ?_
  refine mp_call x (wt_mv base) hG hB hl.1 (mp_invS (av := [.int (nI a0)]) x mn_md_isShop mc_md_isShop (Or.inl ww_822) ww_823 ww_60 rfl dd_md_ask_2) (kk_M_isShop_ok (in_ok (by omega) (by decide))) (Nat.le_trans (Nat.le_of_ble_eq_true rfl) hfr) (Nat.le_trans (Nat.le_of_ble_eq_true rfl) hlo) (Nat.le_trans (Nat.le_of_ble_eq_true rfl) hce) (Nat.le_trans (Nat.le_of_ble_eq_true rfl) hsl) hH hS (fun v σa t0 H locs hp633 ht0 hvm hzz hH hS => ?_) (fun _ _ _ _ _ hz _ _ _ _ _ => by cases hz.1)
  obtain ⟨ho, hσ⟩ := hp633
  cases ho
  rw [hσ] at hH
  refine W.eq (g2 := F0 m 5 ls [.int (nI 1), .ref (ad 13 0)]) rfl ?_
  refine lv_if_eq (tgt := 24) x.1 x.2.1 dd_md_ask_5 (by decide) (fun c634 => absurd c634 (by decide +kernel)) (fun c634 => ?_)
  refine lv_iload_n x.1 x.2.1 dd_md_ask_8 rfl (lv_at hl 2 rfl) ?_
  refine mp_call x (wt_mv base) hG hB hl.1 (mp_invS (av := [.int (nI b0)]) x mn_md_isPrescription mc_md_isPrescription (Or.inl ww_808) ww_809 ww_60 rfl dd_md_ask_9) (kk_M_isPrescription_ok (in_ok (by omega) (by decide))) (Nat.le_trans (Nat.le_of_ble_eq_true rfl) hfr) (Nat.le_trans (Nat.le_of_ble_eq_true rfl) hlo) (Nat.le_trans (Nat.le_of_ble_eq_true rfl) hce) (Nat.le_trans (Nat.le_of_ble_eq_true rfl) hsl) hH hS (fun v σa t0 H locs hp635 ht0 hvm hzz hH hS => ?_) (fun _ _ _ _ _ hz _ _ _ _ _ => by cases hz.1)
  obtain ⟨ho, hσ⟩ := hp635
  cases ho
  rw [hσ] at hH
  refine W.eq (g2 := F0 m 12 ls [.int (nI 1), .ref (ad 13 0)]) rfl ?_
  refine lv_if_eq (tgt := 24) x.1 x.2.1 dd_md_ask_12 (by decide) (fun c636 => absurd c636 (by decide +kernel)) (fun c636 => ?_)
  refine lv_iload_n x.1 x.2.1 dd_md_ask_15 rfl (lv_at hl 3 rfl) ?_
  refine lv_ldc (v := 100001) x.1 x.2.1 x.2.2.2.1 (x.2.2.2.2.1 _ ww_825) dd_md_ask_16 ?_
  refine mn_top (w := nI 100001) (by decide +kernel) ?_
  refine mp_call x (wt_mv base) hG hB hl.1 (mp_invS (av := [.int (nI q0), .int (nI 100001)]) x mn_md_within mc_md_within (Or.inl ww_811) ww_812 ww_60 rfl dd_md_ask_18) (kk_M_within_ok (in_ok (by omega) (by decide))) (Nat.le_trans (Nat.le_of_ble_eq_true rfl) hfr) (Nat.le_trans (Nat.le_of_ble_eq_true rfl) hlo) (Nat.le_trans (Nat.le_of_ble_eq_true rfl) hce) (Nat.le_trans (Nat.le_of_ble_eq_true rfl) hsl) hH hS (fun v σa t0 H locs hp637 ht0 hvm hzz hH hS => ?_) (fun _ _ _ _ _ hz _ _ _ _ _ => by cases hz.1)
  obtain ⟨ho, hσ⟩ := hp637
  cases ho
  rw [hσ] at hH
  refine W.eq (g2 := F0 m 21 ls [.int (nI 1), .ref (ad 13 0)]) rfl ?_
  refine lv_if_ne (tgt := 28) x.1 x.2.1 dd_md_ask_21 (by decide) (fun c638 => ?_) (fun c638 => absurd c638 (by decide +kernel))
  refine lv_iconst (v := nI 0) x.1 x.2.1 dd_md_ask_28 (by decide +kernel) ?_
  refine lv_iconst (v := nI 1) x.1 x.2.1 dd_md_ask_29 (by decide +kernel) ?_
  refine mp_call x (wt_mv base) hG hB hl.1 (mp_invV (av := [.int (nI 0), .int (nI 1)]) x hH (la13 hL) rfl rfl mn_md_fails mc_md_fails (Or.inl ww_814) ww_816 ww_41 rfl dd_md_ask_30) (kk_M_fails0 hL) (Nat.le_trans (Nat.le_of_ble_eq_true rfl) hfr) (Nat.le_trans (Nat.le_of_ble_eq_true rfl) hlo) (Nat.le_trans (Nat.le_of_ble_eq_true rfl) hce) (Nat.le_trans (Nat.le_of_ble_eq_true rfl) hsl) hH hS (fun v σa t0 H locs hp639 ht0 hvm hzz hH hS => ?_) (fun _ _ _ _ _ hz _ _ _ _ _ => by cases hz.1)
  obtain ⟨ho, hL⟩ := hp639
  cases ho
  refine W.eq (g2 := F0 m 33 ls [.int (nI 0)]) rfl ?_
  refine lv_if_eq (tgt := 38) x.1 x.2.1 dd_md_ask_33 (by decide) (fun c640 => ?_) (fun c640 => absurd (by decide +kernel) c640)
  refine lv_iload_n x.1 x.2.1 dd_md_ask_38 rfl (lv_at hl 1 rfl) ?_
  refine lv_iload_n x.1 x.2.1 dd_md_ask_39 rfl (lv_at hl 2 rfl) ?_
  refine mp_call x (wt_mv base) hG hB hl.1 (mp_invS (av := [.int (nI a0), .int (nI b0)]) x mn_md_at mc_md_at (Or.inl ww_826) ww_827 ww_60 rfl dd_md_ask_40) (kk_M_at (a0 := a0) (b0 := b0)) (Nat.le_trans (Nat.le_of_ble_eq_true rfl) hfr) (Nat.le_trans (Nat.le_of_ble_eq_true rfl) hlo) (Nat.le_trans (Nat.le_of_ble_eq_true rfl) hce) (Nat.le_trans (Nat.le_of_ble_eq_true rfl) hsl) hH hS (fun v σa t0 H locs hp641 ht0 hvm hzz hH hS => ?_) (fun _ _ _ _ _ hz _ _ _ _ _ => by cases hz.1)
  obtain ⟨ho, hσ⟩ := hp641
  cases ho
  rw [hσ] at hH
  refine W.eq (g2 := F0 m 43 ls [.int (nI (20 * a0 + b0))]) rfl ?_
  refine mn_top (w := nI a) (congrArg nI hA) ?_
  refine lv_istore (lv' := [(4, .int (nI a)), (0, .ref (ad 13 0)), (1, .int (nI a0)), (2, .int (nI b0)), (3, .int (nI q0))]) x.1 x.2.1 dd_md_ask_43 hl (by decide) rfl (fun ls hl => ?_)
  refine lv_aload_n x.1 x.2.1 dd_md_ask_45 rfl (lv_at hl 1 rfl) ?_
  refine mp_get x hH (la13 hL) fg_md_7 rfl dd_md_ask_46 ?_
  refine lv_iload_n x.1 x.2.1 dd_md_ask_49 rfl (lv_at hl 3 rfl) ?_
  refine ka_ld x hH hL 0 (j := b0) (by decide) (by decide) (show b0 < 20 from (by omega)) (by decide) dd_md_ask_50 ?_
  refine mn_top (w := nI sp) ((mu_k (by decide)).trans (hz)) ?_
  refine lv_if_le (tgt := 83) x.1 x.2.1 dd_md_ask_51 (by decide) (fun c642 => absurd c642 (fun h => absurd ((cv_le (a := sp) (b := 0) (by omega) (by omega)).mp h) (by omega))) (fun c642 => ?_)
  refine lv_aload_n x.1 x.2.1 dd_md_ask_54 rfl (lv_at hl 1 rfl) ?_
  refine mp_get x hH (la13 hL) fg_md_16 rfl dd_md_ask_55 ?_
  refine lv_iload_n x.1 x.2.1 dd_md_ask_58 rfl (lv_at hl 2 rfl) ?_
  refine kz_ld x hH hL (j := a0) (by omega) dd_md_ask_59 ?_
  refine mn_top (w := nI 0) ((mu_k (by decide)).trans (hdn)) ?_
  refine lv_if_ne (tgt := 83) x.1 x.2.1 dd_md_ask_60 (by decide) (fun c643 => absurd (by decide +kernel) c643) (fun c643 => ?_)
  refine lv_aload_n x.1 x.2.1 dd_md_ask_63 rfl (lv_at hl 1 rfl) ?_
  refine mp_get x hH (la13 hL) fg_md_20 rfl dd_md_ask_64 ?_
  refine lv_iload x.1 x.2.1 dd_md_ask_67 (lv_at hl 0 rfl) ?_
  refine ka_ld x hH hL 3 (j := a) (by decide) (by decide) (show a < 500 from (by omega)) (by decide) dd_md_ask_69 ?_
  refine mn_top (w := nI dc) ((mu_k (by decide)).trans (hdc)) ?_
  refine lv_aload_n x.1 x.2.1 dd_md_ask_70 rfl (lv_at hl 1 rfl) ?_
  refine mp_get x hH (la13 hL) fg_md_7 rfl dd_md_ask_71 ?_
  refine lv_iload_n x.1 x.2.1 dd_md_ask_74 rfl (lv_at hl 3 rfl) ?_
  refine ka_ld x hH hL 0 (j := b0) (by decide) (by decide) (show b0 < 20 from (by omega)) (by decide) dd_md_ask_75 ?_
  refine mn_top (w := nI sp) ((mu_k (by decide)).trans (hz)) ?_
  refine lv_icmp_ge (tgt := 83) x.1 x.2.1 dd_md_ask_76 (by decide) (fun c644 => absurd c644 (fun h => absurd ((cv_le (a := sp) (b := dc) (by omega) (by omega)).mp h) (by omega))) (fun c644 => ?_)
  refine lv_iconst (v := nI 1) x.1 x.2.1 dd_md_ask_79 (by decide +kernel) ?_
  refine lv_goto (tgt := 84) x.1 x.2.1 dd_md_ask_80 (by decide) ?_
  refine lv_istore (lv' := [(5, .int (nI 1)), (4, .int (nI a)), (0, .ref (ad 13 0)), (1, .int (nI a0)), (2, .int (nI b0)), (3, .int (nI q0))]) x.1 x.2.1 dd_md_ask_84 hl (by decide) rfl (fun ls hl => ?_)
  refine lv_aload_n x.1 x.2.1 dd_md_ask_86 rfl (lv_at hl 2 rfl) ?_
  refine lv_iload x.1 x.2.1 dd_md_ask_87 (lv_at hl 0 rfl) ?_
  refine lv_if_eq (tgt := 133) x.1 x.2.1 dd_md_ask_89 (by decide) (fun c645 => absurd c645 (by decide +kernel)) (fun c645 => ?_)
  refine lv_aload_n x.1 x.2.1 dd_md_ask_92 rfl (lv_at hl 2 rfl) ?_
  refine mp_get x hH (la13 hL) fg_md_20 rfl dd_md_ask_93 ?_
  refine lv_iload x.1 x.2.1 dd_md_ask_96 (lv_at hl 1 rfl) ?_
  refine ka_ld x hH hL 3 (j := a) (by decide) (by decide) (show a < 500 from (by omega)) (by decide) dd_md_ask_98 ?_
  refine mn_top (w := nI dc) ((mu_k (by decide)).trans (hdc)) ?_
  refine lv_if_le (tgt := 137) x.1 x.2.1 dd_md_ask_99 (by decide) (fun c646 => ?_) (fun c646 => ?_)
  · have c646 : dc ≤ 0 := (cv_le (a := dc) (b := 0) (by omega) (by omega)).mp c646
    refine lv_iconst (v := nI 0) x.1 x.2.1 dd_md_ask_137 (by decide +kernel) ?_
    refine lv_iconst (v := nI 2) x.1 x.2.1 dd_md_ask_138 (by decide +kernel) ?_
    refine mp_call x (wt_mv base) hG hB hl.1 (mp_invV (av := [.int (nI 0), .int (nI 2)]) x hH (la13 hL) rfl rfl mn_md_fails mc_md_fails (Or.inl ww_814) ww_816 ww_41 rfl dd_md_ask_139) (kk_M_fails0 hL) (Nat.le_trans (Nat.le_of_ble_eq_true rfl) hfr) (Nat.le_trans (Nat.le_of_ble_eq_true rfl) hlo) (Nat.le_trans (Nat.le_of_ble_eq_true rfl) hce) (Nat.le_trans (Nat.le_of_ble_eq_true rfl) hsl) hH hS (fun v σa t0 H locs hp647 ht0 hvm hzz hH hS => ?_) (fun _ _ _ _ _ hz _ _ _ _ _ => by cases hz.1)
    obtain ⟨ho, hL⟩ := hp647
    cases ho
    refine W.eq (g2 := F0 m 142 ls [.int (nI 0)]) rfl ?_
    refine lv_if_eq (tgt := 147) x.1 x.2.1 dd_md_ask_142 (by decide) (fun c648 => ?_) (fun c648 => absurd (by decide +kernel) c648)
    refine lv_aload_n x.1 x.2.1 dd_md_ask_147 rfl (lv_at hl 2 rfl) ?_
    refine lv_iload x.1 x.2.1 dd_md_ask_148 (lv_at hl 1 rfl) ?_
    refine mp_call x (wt_mv base) hG hB hl.1 (mp_invV (av := [.int (nI a)]) x hH (la13 hL) rfl rfl mn_md_endAsking mc_md_endAsking (Or.inl ww_829) ww_831 ww_42 rfl dd_md_ask_150) (kk_M_end (a := a) hL (by omega)) (Nat.le_trans (Nat.le_of_ble_eq_true rfl) hfr) (Nat.le_trans (Nat.le_of_ble_eq_true rfl) hlo) (Nat.le_trans (Nat.le_of_ble_eq_true rfl) hce) (Nat.le_trans (Nat.le_of_ble_eq_true rfl) hsl) hH hS (fun v σa t0 H locs hp649 ht0 hvm hzz hH hS => ?_) (fun _ _ _ _ _ hz _ _ _ _ _ => by cases hz.1)
    obtain ⟨ho, hL⟩ := hp649
    cases ho
    refine W.eq (g2 := F0 m 153 ls []) rfl ?_
    refine lv_aload_n x.1 x.2.1 dd_md_ask_153 rfl (lv_at hl 2 rfl) ?_
    refine mp_get x hH (la13 hL) fg_md_44 rfl dd_md_ask_154 ?_
    refine lv_iload x.1 x.2.1 dd_md_ask_157 (lv_at hl 1 rfl) ?_
    refine lv_aload_n x.1 x.2.1 dd_md_ask_159 rfl (lv_at hl 2 rfl) ?_
    refine mp_get x hH (la13 hL) fg_md_20 rfl dd_md_ask_160 ?_
    refine lv_iload x.1 x.2.1 dd_md_ask_163 (lv_at hl 1 rfl) ?_
    refine ka_ld x hH hL 3 (j := a) (by decide) (by decide) (show a < 500 from (by omega)) (by decide) dd_md_ask_165 ?_
    refine mn_top (w := nI dc) ((mse_o (by omega)).trans ((mu_k (by decide)).trans ((mu_k (by decide)).trans (hdc)))) ?_
    refine lv_iconst (v := nI 1) x.1 x.2.1 dd_md_ask_166 (by decide +kernel) ?_
    refine lv_iadd x.1 x.2.1 dd_md_ask_167 ?_
    refine mn_top (w := nI (dc + 1)) (nI_add _ _) ?_
    refine ka_st x hH hS hL 11 (j := a) (by decide) (by decide) (show a < 500 from (by omega)) (by decide) dd_md_ask_168 (fun σ hL H locs hH hS => ?_)
    refine lv_aload_n x.1 x.2.1 dd_md_ask_169 rfl (lv_at hl 2 rfl) ?_
    refine mp_get x hH (la13 hL) fg_md_47 rfl dd_md_ask_170 ?_
    refine lv_iload x.1 x.2.1 dd_md_ask_173 (lv_at hl 1 rfl) ?_
    refine lv_iload_n x.1 x.2.1 dd_md_ask_175 rfl (lv_at hl 3 rfl) ?_
    refine ka_st x hH hS hL 12 (j := a) (by decide) (by decide) (show a < 500 from (by omega)) (by decide) dd_md_ask_176 (fun σ hL H locs hH hS => ?_)
    refine lv_aload_n x.1 x.2.1 dd_md_ask_177 rfl (lv_at hl 2 rfl) ?_
    refine mp_get x hH (la13 hL) fg_md_50 rfl dd_md_ask_178 ?_
    refine lv_iload x.1 x.2.1 dd_md_ask_181 (lv_at hl 1 rfl) ?_
    refine lv_iload_n x.1 x.2.1 dd_md_ask_183 rfl (lv_at hl 5 rfl) ?_
    refine ka_st x hH hS hL 13 (j := a) (by decide) (by decide) (show a < 500 from (by omega)) (by decide) dd_md_ask_184 (fun σ hL H locs hH hS => ?_)
    refine lv_aload_n x.1 x.2.1 dd_md_ask_185 rfl (lv_at hl 2 rfl) ?_
    refine mp_get x hH (la13 hL) fg_md_71 rfl dd_md_ask_186 ?_
    refine lv_iload x.1 x.2.1 dd_md_ask_189 (lv_at hl 1 rfl) ?_
    refine lv_iconst (v := nI 0) x.1 x.2.1 dd_md_ask_191 (by decide +kernel) ?_
    refine ka_st x hH hS hL 20 (j := a) (by decide) (by decide) (show a < 500 from (by omega)) (by decide) dd_md_ask_192 (fun σ hL H locs hH hS => ?_)
    refine lv_aload_n x.1 x.2.1 dd_md_ask_193 rfl (lv_at hl 2 rfl) ?_
    refine lv_iload_n x.1 x.2.1 dd_md_ask_194 rfl (lv_at hl 3 rfl) ?_
    refine lv_iload_n x.1 x.2.1 dd_md_ask_195 rfl (lv_at hl 4 rfl) ?_
    refine mp_call x (wt_mv base) hG hB hl.1 (mp_invV (av := [.int (nI a0), .int (nI b0)]) x hH (la13 hL) rfl rfl mn_md_round mc_md_round (Or.inl ww_833) ww_835 ww_43 rfl dd_md_ask_196) (kk_M_round (a := a) (n := n) (dc := dc) (g := g) (pr := pr) (rf := 0) (nx := nx) hL hA (by omega) (by omega) ((mu_k (by decide)).trans ((mu_k (by decide)).trans ((mu_k (by decide)).trans ((mu_k (by decide)).trans ((mse_o (by omega)).trans ((mu_k (by decide)).trans ((mu_k (by decide)).trans (hn)))))))) (by omega) ((mu_k (by decide)).trans ((mu_k (by decide)).trans ((mu_k (by decide)).trans ((mu_k (by decide)).trans ((mse_o (by omega)).trans ((mu_k (by decide)).trans ((mu_k (by decide)).trans (hdc)))))))) (by omega) ((mu_k (by decide)).trans ((mu_k (by decide)).trans ((mu_k (by decide)).trans ((mu_k (by decide)).trans ((mse_o (by omega)).trans ((mu_k (by decide)).trans ((mu_k (by decide)).trans (h1)))))))) ((mu_k (by decide)).trans ((mu_k (by decide)).trans ((mu_k (by decide)).trans ((mu_k (by decide)).trans ((mse_o (by omega)).trans ((mu_k (by decide)).trans ((mu_k (by decide)).trans (h2)))))))) mu_s (by omega) (by omega) (by omega) hnx) (Nat.le_trans (Nat.le_of_ble_eq_true rfl) hfr) (Nat.le_trans (Nat.le_of_ble_eq_true rfl) hlo) (Nat.le_trans (Nat.le_of_ble_eq_true rfl) hce) (Nat.le_trans (Nat.le_of_ble_eq_true rfl) hsl) hH hS (fun v σa t0 H locs hp650 ht0 hvm hzz hH hS => ?_) (fun _ _ _ _ _ hz _ _ _ _ _ => by cases hz.1)
    obtain ⟨ho, hL⟩ := hp650
    cases ho
    refine W.eq (g2 := F0 m 199 ls [.int (if nx = 0 then nI 0 else nI 25)]) rfl ?_
    exact mp_ri x hr hlk (by decide) (by decide) hH hS (fun _ => ⟨rfl, hL⟩) dd_md_ask_199
  · have c646 : ¬ (dc ≤ 0) := fun h => c646 ((cv_le (a := dc) (b := 0) (by omega) (by omega)).mpr h)
    refine lv_iload_n x.1 x.2.1 dd_md_ask_102 rfl (lv_at hl 5 rfl) ?_
    refine lv_aload_n x.1 x.2.1 dd_md_ask_103 rfl (lv_at hl 2 rfl) ?_
    refine mp_get x hH (la13 hL) fg_md_41 rfl dd_md_ask_104 ?_
    refine lv_bipush (v := nI 12) x.1 x.2.1 dd_md_ask_107 (by decide +kernel) ?_
    refine lv_iload x.1 x.2.1 dd_md_ask_109 (lv_at hl 1 rfl) ?_
    refine lv_imul x.1 x.2.1 dd_md_ask_111 ?_
    refine mn_top (w := nI (12 * a)) (pk_mul _ _) ?_
    refine lv_aload_n x.1 x.2.1 dd_md_ask_112 rfl (lv_at hl 2 rfl) ?_
    refine mp_get x hH (la13 hL) fg_md_20 rfl dd_md_ask_113 ?_
    refine lv_iload x.1 x.2.1 dd_md_ask_116 (lv_at hl 1 rfl) ?_
    refine ka_ld x hH hL 3 (j := a) (by decide) (by decide) (show a < 500 from (by omega)) (by decide) dd_md_ask_118 ?_
    refine mn_top (w := nI dc) ((mu_k (by decide)).trans (hdc)) ?_
    refine lv_iadd x.1 x.2.1 dd_md_ask_119 ?_
    refine mn_top (w := nI (12 * a + dc)) (nI_add _ _) ?_
    refine lv_iconst (v := nI 1) x.1 x.2.1 dd_md_ask_120 (by decide +kernel) ?_
    refine lv_isub x.1 x.2.1 dd_md_ask_121 ?_
    refine mn_top (w := nI (12 * a + dc - 1)) (pk_sub (by omega)) ?_
    refine ka_ld x hH hL 10 (j := 12 * a + dc - 1) (by decide) (by decide) (show 12 * a + dc - 1 < 6000 from (by omega)) (by decide) dd_md_ask_122 ?_
    refine mn_top (w := M 10 (12 * a + dc - 1)) (mu_k (by decide)) ?_
    refine lv_aload_n x.1 x.2.1 dd_md_ask_123 rfl (lv_at hl 2 rfl) ?_
    refine mp_get x hH (la13 hL) fg_md_13 rfl dd_md_ask_124 ?_
    refine lv_iload_n x.1 x.2.1 dd_md_ask_127 rfl (lv_at hl 4 rfl) ?_
    refine ka_ld x hH hL 1 (j := b0) (by decide) (by decide) (show b0 < 20 from (by omega)) (by decide) dd_md_ask_128 ?_
    refine mn_top (w := M 1 b0) (mu_k (by decide)) ?_
    refine lv_iadd x.1 x.2.1 dd_md_ask_129 ?_
    refine lv_icmp_ge (tgt := 137) x.1 x.2.1 dd_md_ask_130 (by decide) (fun c651 => ?_) (fun c651 => absurd (Int32.not_lt.mp (hday (by omega))) c651)
    refine lv_iconst (v := nI 0) x.1 x.2.1 dd_md_ask_137 (by decide +kernel) ?_
    refine lv_iconst (v := nI 2) x.1 x.2.1 dd_md_ask_138 (by decide +kernel) ?_
    refine mp_call x (wt_mv base) hG hB hl.1 (mp_invV (av := [.int (nI 0), .int (nI 2)]) x hH (la13 hL) rfl rfl mn_md_fails mc_md_fails (Or.inl ww_814) ww_816 ww_41 rfl dd_md_ask_139) (kk_M_fails0 hL) (Nat.le_trans (Nat.le_of_ble_eq_true rfl) hfr) (Nat.le_trans (Nat.le_of_ble_eq_true rfl) hlo) (Nat.le_trans (Nat.le_of_ble_eq_true rfl) hce) (Nat.le_trans (Nat.le_of_ble_eq_true rfl) hsl) hH hS (fun v σa t0 H locs hp652 ht0 hvm hzz hH hS => ?_) (fun _ _ _ _ _ hz _ _ _ _ _ => by cases hz.1)
    obtain ⟨ho, hL⟩ := hp652
    cases ho
    refine W.eq (g2 := F0 m 142 ls [.int (nI 0)]) rfl ?_
    refine lv_if_eq (tgt := 147) x.1 x.2.1 dd_md_ask_142 (by decide) (fun c653 => ?_) (fun c653 => absurd (by decide +kernel) c653)
    refine lv_aload_n x.1 x.2.1 dd_md_ask_147 rfl (lv_at hl 2 rfl) ?_
    refine lv_iload x.1 x.2.1 dd_md_ask_148 (lv_at hl 1 rfl) ?_
    refine mp_call x (wt_mv base) hG hB hl.1 (mp_invV (av := [.int (nI a)]) x hH (la13 hL) rfl rfl mn_md_endAsking mc_md_endAsking (Or.inl ww_829) ww_831 ww_42 rfl dd_md_ask_150) (kk_M_end (a := a) hL (by omega)) (Nat.le_trans (Nat.le_of_ble_eq_true rfl) hfr) (Nat.le_trans (Nat.le_of_ble_eq_true rfl) hlo) (Nat.le_trans (Nat.le_of_ble_eq_true rfl) hce) (Nat.le_trans (Nat.le_of_ble_eq_true rfl) hsl) hH hS (fun v σa t0 H locs hp654 ht0 hvm hzz hH hS => ?_) (fun _ _ _ _ _ hz _ _ _ _ _ => by cases hz.1)
    obtain ⟨ho, hL⟩ := hp654
    cases ho
    refine W.eq (g2 := F0 m 153 ls []) rfl ?_
    refine lv_aload_n x.1 x.2.1 dd_md_ask_153 rfl (lv_at hl 2 rfl) ?_
    refine mp_get x hH (la13 hL) fg_md_44 rfl dd_md_ask_154 ?_
    refine lv_iload x.1 x.2.1 dd_md_ask_157 (lv_at hl 1 rfl) ?_
    refine lv_aload_n x.1 x.2.1 dd_md_ask_159 rfl (lv_at hl 2 rfl) ?_
    refine mp_get x hH (la13 hL) fg_md_20 rfl dd_md_ask_160 ?_
    refine lv_iload x.1 x.2.1 dd_md_ask_163 (lv_at hl 1 rfl) ?_
    refine ka_ld x hH hL 3 (j := a) (by decide) (by decide) (show a < 500 from (by omega)) (by decide) dd_md_ask_165 ?_
    refine mn_top (w := nI dc) ((mse_o (by omega)).trans ((mu_k (by decide)).trans ((mu_k (by decide)).trans (hdc)))) ?_
    refine lv_iconst (v := nI 1) x.1 x.2.1 dd_md_ask_166 (by decide +kernel) ?_
    refine lv_iadd x.1 x.2.1 dd_md_ask_167 ?_
    refine mn_top (w := nI (dc + 1)) (nI_add _ _) ?_
    refine ka_st x hH hS hL 11 (j := a) (by decide) (by decide) (show a < 500 from (by omega)) (by decide) dd_md_ask_168 (fun σ hL H locs hH hS => ?_)
    refine lv_aload_n x.1 x.2.1 dd_md_ask_169 rfl (lv_at hl 2 rfl) ?_
    refine mp_get x hH (la13 hL) fg_md_47 rfl dd_md_ask_170 ?_
    refine lv_iload x.1 x.2.1 dd_md_ask_173 (lv_at hl 1 rfl) ?_
    refine lv_iload_n x.1 x.2.1 dd_md_ask_175 rfl (lv_at hl 3 rfl) ?_
    refine ka_st x hH hS hL 12 (j := a) (by decide) (by decide) (show a < 500 from (by omega)) (by decide) dd_md_ask_176 (fun σ hL H locs hH hS => ?_)
    refine lv_aload_n x.1 x.2.1 dd_md_ask_177 rfl (lv_at hl 2 rfl) ?_
    refine mp_get x hH (la13 hL) fg_md_50 rfl dd_md_ask_178 ?_
    refine lv_iload x.1 x.2.1 dd_md_ask_181 (lv_at hl 1 rfl) ?_
    refine lv_iload_n x.1 x.2.1 dd_md_ask_183 rfl (lv_at hl 5 rfl) ?_
    refine ka_st x hH hS hL 13 (j := a) (by decide) (by decide) (show a < 500 from (by omega)) (by decide) dd_md_ask_184 (fun σ hL H locs hH hS => ?_)
    refine lv_aload_n x.1 x.2.1 dd_md_ask_185 rfl (lv_at hl 2 rfl) ?_
    refine mp_get x hH (la13 hL) fg_md_71 rfl dd_md_ask_186 ?_
    refine lv_iload x.1 x.2.1 dd_md_ask_189 (lv_at hl 1 rfl) ?_
    refine lv_iconst (v := nI 0) x.1 x.2.1 dd_md_ask_191 (by decide +kernel) ?_
    refine ka_st x hH hS hL 20 (j := a) (by decide) (by decide) (show a < 500 from (by omega)) (by decide) dd_md_ask_192 (fun σ hL H locs hH hS => ?_)
    refine lv_aload_n x.1 x.2.1 dd_md_ask_193 rfl (lv_at hl 2 rfl) ?_
    refine lv_iload_n x.1 x.2.1 dd_md_ask_194 rfl (lv_at hl 3 rfl) ?_
    refine lv_iload_n x.1 x.2.1 dd_md_ask_195 rfl (lv_at hl 4 rfl) ?_
    refine mp_call x (wt_mv base) hG hB hl.1 (mp_invV (av := [.int (nI a0), .int (nI b0)]) x hH (la13 hL) rfl rfl mn_md_round mc_md_round (Or.inl ww_833) ww_835 ww_43 rfl dd_md_ask_196) (kk_M_round (a := a) (n := n) (dc := dc) (g := g) (pr := pr) (rf := 0) (nx := nx) hL hA (by omega) (by omega) ((mu_k (by decide)).trans ((mu_k (by decide)).trans ((mu_k (by decide)).trans ((mu_k (by decide)).trans ((mse_o (by omega)).trans ((mu_k (by decide)).trans ((mu_k (by decide)).trans (hn)))))))) (by omega) ((mu_k (by decide)).trans ((mu_k (by decide)).trans ((mu_k (by decide)).trans ((mu_k (by decide)).trans ((mse_o (by omega)).trans ((mu_k (by decide)).trans ((mu_k (by decide)).trans (hdc)))))))) (by omega) ((mu_k (by decide)).trans ((mu_k (by decide)).trans ((mu_k (by decide)).trans ((mu_k (by decide)).trans ((mse_o (by omega)).trans ((mu_k (by decide)).trans ((mu_k (by decide)).trans (h1)))))))) ((mu_k (by decide)).trans ((mu_k (by decide)).trans ((mu_k (by decide)).trans ((mu_k (by decide)).trans ((mse_o (by omega)).trans ((mu_k (by decide)).trans ((mu_k (by decide)).trans (h2)))))))) mu_s (by omega) (by omega) (by omega) hnx) (Nat.le_trans (Nat.le_of_ble_eq_true rfl) hfr) (Nat.le_trans (Nat.le_of_ble_eq_true rfl) hlo) (Nat.le_trans (Nat.le_of_ble_eq_true rfl) hce) (Nat.le_trans (Nat.le_of_ble_eq_true rfl) hsl) hH hS (fun v σa t0 H locs hp655 ht0 hvm hzz hH hS => ?_) (fun _ _ _ _ _ hz _ _ _ _ _ => by cases hz.1)
    obtain ⟨ho, hL⟩ := hp655
    cases ho
    refine W.eq (g2 := F0 m 199 ls [.int (if nx = 0 then nI 0 else nI 25)]) rfl ?_
    exact mp_ri x hr hlk (by decide) (by decide) hH hS (fun _ => ⟨rfl, hL⟩) dd_md_ask_199
set_option maxRecDepth 100000 in
set_option maxHeartbeats 4000000 in
theorem kk_MX_ask_2a {l : Launch} {D : va_G} {ar : Nat → ClassId} {base : Nat} {σ : mp_M} {ad : Nat → Nat → Nat} {rg : Nat → Bool} {pl : Nat → Nat} {V M : fV} {a0 b0 a q0 : Nat} (hL : Lay ar ad rg pl V M σ) (hA : 20 * a0 + b0 = a) (ha : a0 < 25) (hb : b0 < 20) (hq0 : q0 ≤ 100000) (hz : M 0 b0 = nI 0) : CN l D ar base yy_md_ask prog_9_method_14_code 6 (Option.some Jvm.ClassFile.FieldType.int) [] 2 26 0 0 [.ref (ad 13 0), .int (nI a0), .int (nI b0), .int (nI q0)] σ (fun o σ' _ => o = .returned (some (.int (nI 0))) ∧ Lay ar ad rg pl V (mu (mu M 27 0 (nI 0)) 27 0 (nI 2)) σ') := by
  refine mp_in (Nat.le_of_ble_eq_true rfl) ?_
  intro p e R s m below meth c x hfr hlo hce hsl hr hlk hin hex hG hB ls H hH0 hH hS hl
  have hl : lv_has ls 6 [(0, .ref (ad 13 0)), (1, .int (nI a0)), (2, .int (nI b0)), (3, .int (nI q0))] := hl
  refine lv_aload_n x.1 x.2.1 dd_md_ask_0 rfl (lv_at hl 0 rfl) ?_
  refine lv_iload_n x.1 x.2.1 dd_md_ask_1 rfl (lv_at hl 1 rfl) ?_
  refine mp_call x (wt_mv base) hG hB hl.1 (mp_invS (av := [.int (nI a0)]) x mn_md_isShop mc_md_isShop (Or.inl ww_822) ww_823 ww_60 rfl dd_md_ask_2) (kk_M_isShop_ok (in_ok (by omega) (by decide))) (Nat.le_trans (Nat.le_of_ble_eq_true rfl) hfr) (Nat.le_trans (Nat.le_of_ble_eq_true rfl) hlo) (Nat.le_trans (Nat.le_of_ble_eq_true rfl) hce) (Nat.le_trans (Nat.le_of_ble_eq_true rfl) hsl) hH hS (fun v σa t0 H locs hp669 ht0 hvm hzz hH hS => ?_) (fun _ _ _ _ _ hz _ _ _ _ _ => by cases hz.1)
  obtain ⟨ho, hσ⟩ := hp669
  cases ho
  rw [hσ] at hH
  refine W.eq (g2 := F0 m 5 ls [.int (nI 1), .ref (ad 13 0)]) rfl ?_
  refine lv_if_eq (tgt := 24) x.1 x.2.1 dd_md_ask_5 (by decide) (fun c670 => absurd c670 (by decide +kernel)) (fun c670 => ?_)
  refine lv_iload_n x.1 x.2.1 dd_md_ask_8 rfl (lv_at hl 2 rfl) ?_
  refine mp_call x (wt_mv base) hG hB hl.1 (mp_invS (av := [.int (nI b0)]) x mn_md_isPrescription mc_md_isPrescription (Or.inl ww_808) ww_809 ww_60 rfl dd_md_ask_9) (kk_M_isPrescription_ok (in_ok (by omega) (by decide))) (Nat.le_trans (Nat.le_of_ble_eq_true rfl) hfr) (Nat.le_trans (Nat.le_of_ble_eq_true rfl) hlo) (Nat.le_trans (Nat.le_of_ble_eq_true rfl) hce) (Nat.le_trans (Nat.le_of_ble_eq_true rfl) hsl) hH hS (fun v σa t0 H locs hp671 ht0 hvm hzz hH hS => ?_) (fun _ _ _ _ _ hz _ _ _ _ _ => by cases hz.1)
  obtain ⟨ho, hσ⟩ := hp671
  cases ho
  rw [hσ] at hH
  refine W.eq (g2 := F0 m 12 ls [.int (nI 1), .ref (ad 13 0)]) rfl ?_
  refine lv_if_eq (tgt := 24) x.1 x.2.1 dd_md_ask_12 (by decide) (fun c672 => absurd c672 (by decide +kernel)) (fun c672 => ?_)
  refine lv_iload_n x.1 x.2.1 dd_md_ask_15 rfl (lv_at hl 3 rfl) ?_
  refine lv_ldc (v := 100001) x.1 x.2.1 x.2.2.2.1 (x.2.2.2.2.1 _ ww_825) dd_md_ask_16 ?_
  refine mn_top (w := nI 100001) (by decide +kernel) ?_
  refine mp_call x (wt_mv base) hG hB hl.1 (mp_invS (av := [.int (nI q0), .int (nI 100001)]) x mn_md_within mc_md_within (Or.inl ww_811) ww_812 ww_60 rfl dd_md_ask_18) (kk_M_within_ok (in_ok (by omega) (by decide))) (Nat.le_trans (Nat.le_of_ble_eq_true rfl) hfr) (Nat.le_trans (Nat.le_of_ble_eq_true rfl) hlo) (Nat.le_trans (Nat.le_of_ble_eq_true rfl) hce) (Nat.le_trans (Nat.le_of_ble_eq_true rfl) hsl) hH hS (fun v σa t0 H locs hp673 ht0 hvm hzz hH hS => ?_) (fun _ _ _ _ _ hz _ _ _ _ _ => by cases hz.1)
  obtain ⟨ho, hσ⟩ := hp673
  cases ho
  rw [hσ] at hH
  refine W.eq (g2 := F0 m 21 ls [.int (nI 1), .ref (ad 13 0)]) rfl ?_
  refine lv_if_ne (tgt := 28) x.1 x.2.1 dd_md_ask_21 (by decide) (fun c674 => ?_) (fun c674 => absurd c674 (by decide +kernel))
  refine lv_iconst (v := nI 0) x.1 x.2.1 dd_md_ask_28 (by decide +kernel) ?_
  refine lv_iconst (v := nI 1) x.1 x.2.1 dd_md_ask_29 (by decide +kernel) ?_
  refine mp_call x (wt_mv base) hG hB hl.1 (mp_invV (av := [.int (nI 0), .int (nI 1)]) x hH (la13 hL) rfl rfl mn_md_fails mc_md_fails (Or.inl ww_814) ww_816 ww_41 rfl dd_md_ask_30) (kk_M_fails0 hL) (Nat.le_trans (Nat.le_of_ble_eq_true rfl) hfr) (Nat.le_trans (Nat.le_of_ble_eq_true rfl) hlo) (Nat.le_trans (Nat.le_of_ble_eq_true rfl) hce) (Nat.le_trans (Nat.le_of_ble_eq_true rfl) hsl) hH hS (fun v σa t0 H locs hp675 ht0 hvm hzz hH hS => ?_) (fun _ _ _ _ _ hz _ _ _ _ _ => by cases hz.1)
  obtain ⟨ho, hL⟩ := hp675
  cases ho
  refine W.eq (g2 := F0 m 33 ls [.int (nI 0)]) rfl ?_
  refine lv_if_eq (tgt := 38) x.1 x.2.1 dd_md_ask_33 (by decide) (fun c676 => ?_) (fun c676 => absurd (by decide +kernel) c676)
  refine lv_iload_n x.1 x.2.1 dd_md_ask_38 rfl (lv_at hl 1 rfl) ?_
  refine lv_iload_n x.1 x.2.1 dd_md_ask_39 rfl (lv_at hl 2 rfl) ?_
  refine mp_call x (wt_mv base) hG hB hl.1 (mp_invS (av := [.int (nI a0), .int (nI b0)]) x mn_md_at mc_md_at (Or.inl ww_826) ww_827 ww_60 rfl dd_md_ask_40) (kk_M_at (a0 := a0) (b0 := b0)) (Nat.le_trans (Nat.le_of_ble_eq_true rfl) hfr) (Nat.le_trans (Nat.le_of_ble_eq_true rfl) hlo) (Nat.le_trans (Nat.le_of_ble_eq_true rfl) hce) (Nat.le_trans (Nat.le_of_ble_eq_true rfl) hsl) hH hS (fun v σa t0 H locs hp677 ht0 hvm hzz hH hS => ?_) (fun _ _ _ _ _ hz _ _ _ _ _ => by cases hz.1)
  obtain ⟨ho, hσ⟩ := hp677
  cases ho
  rw [hσ] at hH
  refine W.eq (g2 := F0 m 43 ls [.int (nI (20 * a0 + b0))]) rfl ?_
  refine mn_top (w := nI a) (congrArg nI hA) ?_
  refine lv_istore (lv' := [(4, .int (nI a)), (0, .ref (ad 13 0)), (1, .int (nI a0)), (2, .int (nI b0)), (3, .int (nI q0))]) x.1 x.2.1 dd_md_ask_43 hl (by decide) rfl (fun ls hl => ?_)
  refine lv_aload_n x.1 x.2.1 dd_md_ask_45 rfl (lv_at hl 1 rfl) ?_
  refine mp_get x hH (la13 hL) fg_md_7 rfl dd_md_ask_46 ?_
  refine lv_iload_n x.1 x.2.1 dd_md_ask_49 rfl (lv_at hl 3 rfl) ?_
  refine ka_ld x hH hL 0 (j := b0) (by decide) (by decide) (show b0 < 20 from (by omega)) (by decide) dd_md_ask_50 ?_
  refine mn_top (w := nI 0) ((mu_k (by decide)).trans (hz)) ?_
  refine lv_if_le (tgt := 83) x.1 x.2.1 dd_md_ask_51 (by decide) (fun c678 => ?_) (fun c678 => absurd (by decide +kernel) c678)
  refine lv_iconst (v := nI 0) x.1 x.2.1 dd_md_ask_83 (by decide +kernel) ?_
  refine lv_istore (lv' := [(5, .int (nI 0)), (4, .int (nI a)), (0, .ref (ad 13 0)), (1, .int (nI a0)), (2, .int (nI b0)), (3, .int (nI q0))]) x.1 x.2.1 dd_md_ask_84 hl (by decide) rfl (fun ls hl => ?_)
  refine lv_aload_n x.1 x.2.1 dd_md_ask_86 rfl (lv_at hl 2 rfl) ?_
  refine lv_iload x.1 x.2.1 dd_md_ask_87 (lv_at hl 0 rfl) ?_
  refine lv_if_eq (tgt := 133) x.1 x.2.1 dd_md_ask_89 (by decide) (fun c679 => ?_) (fun c679 => absurd (by decide +kernel) c679)
  refine lv_iconst (v := nI 1) x.1 x.2.1 dd_md_ask_133 (by decide +kernel) ?_
  refine lv_goto (tgt := 138) x.1 x.2.1 dd_md_ask_134 (by decide) ?_
  refine lv_iconst (v := nI 2) x.1 x.2.1 dd_md_ask_138 (by decide +kernel) ?_
  refine mp_call x (wt_mv base) hG hB hl.1 (mp_invV (av := [.int (nI 1), .int (nI 2)]) x hH (la13 hL) rfl rfl mn_md_fails mc_md_fails (Or.inl ww_814) ww_816 ww_41 rfl dd_md_ask_139) (kk_M_fails1 hL) (Nat.le_trans (Nat.le_of_ble_eq_true rfl) hfr) (Nat.le_trans (Nat.le_of_ble_eq_true rfl) hlo) (Nat.le_trans (Nat.le_of_ble_eq_true rfl) hce) (Nat.le_trans (Nat.le_of_ble_eq_true rfl) hsl) hH hS (fun v σa t0 H locs hp680 ht0 hvm hzz hH hS => ?_) (fun _ _ _ _ _ hz _ _ _ _ _ => by cases hz.1)
  obtain ⟨ho, hL⟩ := hp680
  cases ho
  refine W.eq (g2 := F0 m 142 ls [.int (nI 1)]) rfl ?_
  refine lv_if_eq (tgt := 147) x.1 x.2.1 dd_md_ask_142 (by decide) (fun c681 => absurd c681 (by decide +kernel)) (fun c681 => ?_)
  refine lv_iconst (v := nI 0) x.1 x.2.1 dd_md_ask_145 (by decide +kernel) ?_
  exact mp_ri x hr hlk (by decide) (by decide) hH hS (fun _ => ⟨rfl, hL⟩) dd_md_ask_146
set_option maxRecDepth 100000 in
set_option maxHeartbeats 4000000 in
theorem kk_MX_ask_2b {l : Launch} {D : va_G} {ar : Nat → ClassId} {base : Nat} {σ : mp_M} {ad : Nat → Nat → Nat} {rg : Nat → Bool} {pl : Nat → Nat} {V M : fV} {a0 b0 a q0 sp : Nat} (hL : Lay ar ad rg pl V M σ) (hA : 20 * a0 + b0 = a) (ha : a0 < 25) (hb : b0 < 20) (hq0 : q0 ≤ 100000) (hz : M 0 b0 = nI sp) (hsp : 0 < sp) (hsp2 : sp ≤ 12) (hdn : M 2 a0 = nI 1) : CN l D ar base yy_md_ask prog_9_method_14_code 6 (Option.some Jvm.ClassFile.FieldType.int) [] 2 26 0 0 [.ref (ad 13 0), .int (nI a0), .int (nI b0), .int (nI q0)] σ (fun o σ' _ => o = .returned (some (.int (nI 0))) ∧ Lay ar ad rg pl V (mu (mu M 27 0 (nI 0)) 27 0 (nI 2)) σ') := by
  refine mp_in (Nat.le_of_ble_eq_true rfl) ?_
  intro p e R s m below meth c x hfr hlo hce hsl hr hlk hin hex hG hB ls H hH0 hH hS hl
  have hl : lv_has ls 6 [(0, .ref (ad 13 0)), (1, .int (nI a0)), (2, .int (nI b0)), (3, .int (nI q0))] := hl
  refine lv_aload_n x.1 x.2.1 dd_md_ask_0 rfl (lv_at hl 0 rfl) ?_
  refine lv_iload_n x.1 x.2.1 dd_md_ask_1 rfl (lv_at hl 1 rfl) ?_
  refine mp_call x (wt_mv base) hG hB hl.1 (mp_invS (av := [.int (nI a0)]) x mn_md_isShop mc_md_isShop (Or.inl ww_822) ww_823 ww_60 rfl dd_md_ask_2) (kk_M_isShop_ok (in_ok (by omega) (by decide))) (Nat.le_trans (Nat.le_of_ble_eq_true rfl) hfr) (Nat.le_trans (Nat.le_of_ble_eq_true rfl) hlo) (Nat.le_trans (Nat.le_of_ble_eq_true rfl) hce) (Nat.le_trans (Nat.le_of_ble_eq_true rfl) hsl) hH hS (fun v σa t0 H locs hp696 ht0 hvm hzz hH hS => ?_) (fun _ _ _ _ _ hz _ _ _ _ _ => by cases hz.1)
  obtain ⟨ho, hσ⟩ := hp696
  cases ho
  rw [hσ] at hH
  refine W.eq (g2 := F0 m 5 ls [.int (nI 1), .ref (ad 13 0)]) rfl ?_
  refine lv_if_eq (tgt := 24) x.1 x.2.1 dd_md_ask_5 (by decide) (fun c697 => absurd c697 (by decide +kernel)) (fun c697 => ?_)
  refine lv_iload_n x.1 x.2.1 dd_md_ask_8 rfl (lv_at hl 2 rfl) ?_
  refine mp_call x (wt_mv base) hG hB hl.1 (mp_invS (av := [.int (nI b0)]) x mn_md_isPrescription mc_md_isPrescription (Or.inl ww_808) ww_809 ww_60 rfl dd_md_ask_9) (kk_M_isPrescription_ok (in_ok (by omega) (by decide))) (Nat.le_trans (Nat.le_of_ble_eq_true rfl) hfr) (Nat.le_trans (Nat.le_of_ble_eq_true rfl) hlo) (Nat.le_trans (Nat.le_of_ble_eq_true rfl) hce) (Nat.le_trans (Nat.le_of_ble_eq_true rfl) hsl) hH hS (fun v σa t0 H locs hp698 ht0 hvm hzz hH hS => ?_) (fun _ _ _ _ _ hz _ _ _ _ _ => by cases hz.1)
  obtain ⟨ho, hσ⟩ := hp698
  cases ho
  rw [hσ] at hH
  refine W.eq (g2 := F0 m 12 ls [.int (nI 1), .ref (ad 13 0)]) rfl ?_
  refine lv_if_eq (tgt := 24) x.1 x.2.1 dd_md_ask_12 (by decide) (fun c699 => absurd c699 (by decide +kernel)) (fun c699 => ?_)
  refine lv_iload_n x.1 x.2.1 dd_md_ask_15 rfl (lv_at hl 3 rfl) ?_
  refine lv_ldc (v := 100001) x.1 x.2.1 x.2.2.2.1 (x.2.2.2.2.1 _ ww_825) dd_md_ask_16 ?_
  refine mn_top (w := nI 100001) (by decide +kernel) ?_
  refine mp_call x (wt_mv base) hG hB hl.1 (mp_invS (av := [.int (nI q0), .int (nI 100001)]) x mn_md_within mc_md_within (Or.inl ww_811) ww_812 ww_60 rfl dd_md_ask_18) (kk_M_within_ok (in_ok (by omega) (by decide))) (Nat.le_trans (Nat.le_of_ble_eq_true rfl) hfr) (Nat.le_trans (Nat.le_of_ble_eq_true rfl) hlo) (Nat.le_trans (Nat.le_of_ble_eq_true rfl) hce) (Nat.le_trans (Nat.le_of_ble_eq_true rfl) hsl) hH hS (fun v σa t0 H locs hp700 ht0 hvm hzz hH hS => ?_) (fun _ _ _ _ _ hz _ _ _ _ _ => by cases hz.1)
  obtain ⟨ho, hσ⟩ := hp700
  cases ho
  rw [hσ] at hH
  refine W.eq (g2 := F0 m 21 ls [.int (nI 1), .ref (ad 13 0)]) rfl ?_
  refine lv_if_ne (tgt := 28) x.1 x.2.1 dd_md_ask_21 (by decide) (fun c701 => ?_) (fun c701 => absurd c701 (by decide +kernel))
  refine lv_iconst (v := nI 0) x.1 x.2.1 dd_md_ask_28 (by decide +kernel) ?_
  refine lv_iconst (v := nI 1) x.1 x.2.1 dd_md_ask_29 (by decide +kernel) ?_
  refine mp_call x (wt_mv base) hG hB hl.1 (mp_invV (av := [.int (nI 0), .int (nI 1)]) x hH (la13 hL) rfl rfl mn_md_fails mc_md_fails (Or.inl ww_814) ww_816 ww_41 rfl dd_md_ask_30) (kk_M_fails0 hL) (Nat.le_trans (Nat.le_of_ble_eq_true rfl) hfr) (Nat.le_trans (Nat.le_of_ble_eq_true rfl) hlo) (Nat.le_trans (Nat.le_of_ble_eq_true rfl) hce) (Nat.le_trans (Nat.le_of_ble_eq_true rfl) hsl) hH hS (fun v σa t0 H locs hp702 ht0 hvm hzz hH hS => ?_) (fun _ _ _ _ _ hz _ _ _ _ _ => by cases hz.1)
  obtain ⟨ho, hL⟩ := hp702
  cases ho
  refine W.eq (g2 := F0 m 33 ls [.int (nI 0)]) rfl ?_
  refine lv_if_eq (tgt := 38) x.1 x.2.1 dd_md_ask_33 (by decide) (fun c703 => ?_) (fun c703 => absurd (by decide +kernel) c703)
  refine lv_iload_n x.1 x.2.1 dd_md_ask_38 rfl (lv_at hl 1 rfl) ?_
  refine lv_iload_n x.1 x.2.1 dd_md_ask_39 rfl (lv_at hl 2 rfl) ?_
  refine mp_call x (wt_mv base) hG hB hl.1 (mp_invS (av := [.int (nI a0), .int (nI b0)]) x mn_md_at mc_md_at (Or.inl ww_826) ww_827 ww_60 rfl dd_md_ask_40) (kk_M_at (a0 := a0) (b0 := b0)) (Nat.le_trans (Nat.le_of_ble_eq_true rfl) hfr) (Nat.le_trans (Nat.le_of_ble_eq_true rfl) hlo) (Nat.le_trans (Nat.le_of_ble_eq_true rfl) hce) (Nat.le_trans (Nat.le_of_ble_eq_true rfl) hsl) hH hS (fun v σa t0 H locs hp704 ht0 hvm hzz hH hS => ?_) (fun _ _ _ _ _ hz _ _ _ _ _ => by cases hz.1)
  obtain ⟨ho, hσ⟩ := hp704
  cases ho
  rw [hσ] at hH
  refine W.eq (g2 := F0 m 43 ls [.int (nI (20 * a0 + b0))]) rfl ?_
  refine mn_top (w := nI a) (congrArg nI hA) ?_
  refine lv_istore (lv' := [(4, .int (nI a)), (0, .ref (ad 13 0)), (1, .int (nI a0)), (2, .int (nI b0)), (3, .int (nI q0))]) x.1 x.2.1 dd_md_ask_43 hl (by decide) rfl (fun ls hl => ?_)
  refine lv_aload_n x.1 x.2.1 dd_md_ask_45 rfl (lv_at hl 1 rfl) ?_
  refine mp_get x hH (la13 hL) fg_md_7 rfl dd_md_ask_46 ?_
  refine lv_iload_n x.1 x.2.1 dd_md_ask_49 rfl (lv_at hl 3 rfl) ?_
  refine ka_ld x hH hL 0 (j := b0) (by decide) (by decide) (show b0 < 20 from (by omega)) (by decide) dd_md_ask_50 ?_
  refine mn_top (w := nI sp) ((mu_k (by decide)).trans (hz)) ?_
  refine lv_if_le (tgt := 83) x.1 x.2.1 dd_md_ask_51 (by decide) (fun c705 => absurd c705 (fun h => absurd ((cv_le (a := sp) (b := 0) (by omega) (by omega)).mp h) (by omega))) (fun c705 => ?_)
  refine lv_aload_n x.1 x.2.1 dd_md_ask_54 rfl (lv_at hl 1 rfl) ?_
  refine mp_get x hH (la13 hL) fg_md_16 rfl dd_md_ask_55 ?_
  refine lv_iload_n x.1 x.2.1 dd_md_ask_58 rfl (lv_at hl 2 rfl) ?_
  refine kz_ld x hH hL (j := a0) (by omega) dd_md_ask_59 ?_
  refine mn_top (w := nI 1) ((mu_k (by decide)).trans (hdn)) ?_
  refine lv_if_ne (tgt := 83) x.1 x.2.1 dd_md_ask_60 (by decide) (fun c706 => ?_) (fun c706 => absurd c706 (by decide +kernel))
  refine lv_iconst (v := nI 0) x.1 x.2.1 dd_md_ask_83 (by decide +kernel) ?_
  refine lv_istore (lv' := [(5, .int (nI 0)), (4, .int (nI a)), (0, .ref (ad 13 0)), (1, .int (nI a0)), (2, .int (nI b0)), (3, .int (nI q0))]) x.1 x.2.1 dd_md_ask_84 hl (by decide) rfl (fun ls hl => ?_)
  refine lv_aload_n x.1 x.2.1 dd_md_ask_86 rfl (lv_at hl 2 rfl) ?_
  refine lv_iload x.1 x.2.1 dd_md_ask_87 (lv_at hl 0 rfl) ?_
  refine lv_if_eq (tgt := 133) x.1 x.2.1 dd_md_ask_89 (by decide) (fun c707 => ?_) (fun c707 => absurd (by decide +kernel) c707)
  refine lv_iconst (v := nI 1) x.1 x.2.1 dd_md_ask_133 (by decide +kernel) ?_
  refine lv_goto (tgt := 138) x.1 x.2.1 dd_md_ask_134 (by decide) ?_
  refine lv_iconst (v := nI 2) x.1 x.2.1 dd_md_ask_138 (by decide +kernel) ?_
  refine mp_call x (wt_mv base) hG hB hl.1 (mp_invV (av := [.int (nI 1), .int (nI 2)]) x hH (la13 hL) rfl rfl mn_md_fails mc_md_fails (Or.inl ww_814) ww_816 ww_41 rfl dd_md_ask_139) (kk_M_fails1 hL) (Nat.le_trans (Nat.le_of_ble_eq_true rfl) hfr) (Nat.le_trans (Nat.le_of_ble_eq_true rfl) hlo) (Nat.le_trans (Nat.le_of_ble_eq_true rfl) hce) (Nat.le_trans (Nat.le_of_ble_eq_true rfl) hsl) hH hS (fun v σa t0 H locs hp708 ht0 hvm hzz hH hS => ?_) (fun _ _ _ _ _ hz _ _ _ _ _ => by cases hz.1)
  obtain ⟨ho, hL⟩ := hp708
  cases ho
  refine W.eq (g2 := F0 m 142 ls [.int (nI 1)]) rfl ?_
  refine lv_if_eq (tgt := 147) x.1 x.2.1 dd_md_ask_142 (by decide) (fun c709 => absurd c709 (by decide +kernel)) (fun c709 => ?_)
  refine lv_iconst (v := nI 0) x.1 x.2.1 dd_md_ask_145 (by decide +kernel) ?_
  exact mp_ri x hr hlk (by decide) (by decide) hH hS (fun _ => ⟨rfl, hL⟩) dd_md_ask_146
set_option maxRecDepth 100000 in
set_option maxHeartbeats 4000000 in
theorem kk_MX_ask_2c {l : Launch} {D : va_G} {ar : Nat → ClassId} {base : Nat} {σ : mp_M} {ad : Nat → Nat → Nat} {rg : Nat → Bool} {pl : Nat → Nat} {V M : fV} {a0 b0 a q0 sp dc : Nat} (hL : Lay ar ad rg pl V M σ) (hA : 20 * a0 + b0 = a) (ha : a0 < 25) (hb : b0 < 20) (hq0 : q0 ≤ 100000) (hz : M 0 b0 = nI sp) (hsp : 0 < sp) (hsp2 : sp ≤ 12) (hdn : M 2 a0 = nI 0) (hdc : M 3 a = nI dc) (hdl : dc ≤ 12) (hge : sp ≤ dc) : CN l D ar base yy_md_ask prog_9_method_14_code 6 (Option.some Jvm.ClassFile.FieldType.int) [] 2 26 0 0 [.ref (ad 13 0), .int (nI a0), .int (nI b0), .int (nI q0)] σ (fun o σ' _ => o = .returned (some (.int (nI 0))) ∧ Lay ar ad rg pl V (mu (mu M 27 0 (nI 0)) 27 0 (nI 2)) σ') := by
  refine mp_in (Nat.le_of_ble_eq_true rfl) ?_
  intro p e R s m below meth c x hfr hlo hce hsl hr hlk hin hex hG hB ls H hH0 hH hS hl
  have hl : lv_has ls 6 [(0, .ref (ad 13 0)), (1, .int (nI a0)), (2, .int (nI b0)), (3, .int (nI q0))] := hl
  refine lv_aload_n x.1 x.2.1 dd_md_ask_0 rfl (lv_at hl 0 rfl) ?_
  refine lv_iload_n x.1 x.2.1 dd_md_ask_1 rfl (lv_at hl 1 rfl) ?_
  refine mp_call x (wt_mv base) hG hB hl.1 (mp_invS (av := [.int (nI a0)]) x mn_md_isShop mc_md_isShop (Or.inl ww_822) ww_823 ww_60 rfl dd_md_ask_2) (kk_M_isShop_ok (in_ok (by omega) (by decide))) (Nat.le_trans (Nat.le_of_ble_eq_true rfl) hfr) (Nat.le_trans (Nat.le_of_ble_eq_true rfl) hlo) (Nat.le_trans (Nat.le_of_ble_eq_true rfl) hce) (Nat.le_trans (Nat.le_of_ble_eq_true rfl) hsl) hH hS (fun v σa t0 H locs hp725 ht0 hvm hzz hH hS => ?_) (fun _ _ _ _ _ hz _ _ _ _ _ => by cases hz.1)
  obtain ⟨ho, hσ⟩ := hp725
  cases ho
  rw [hσ] at hH
  refine W.eq (g2 := F0 m 5 ls [.int (nI 1), .ref (ad 13 0)]) rfl ?_
  refine lv_if_eq (tgt := 24) x.1 x.2.1 dd_md_ask_5 (by decide) (fun c726 => absurd c726 (by decide +kernel)) (fun c726 => ?_)
  refine lv_iload_n x.1 x.2.1 dd_md_ask_8 rfl (lv_at hl 2 rfl) ?_
  refine mp_call x (wt_mv base) hG hB hl.1 (mp_invS (av := [.int (nI b0)]) x mn_md_isPrescription mc_md_isPrescription (Or.inl ww_808) ww_809 ww_60 rfl dd_md_ask_9) (kk_M_isPrescription_ok (in_ok (by omega) (by decide))) (Nat.le_trans (Nat.le_of_ble_eq_true rfl) hfr) (Nat.le_trans (Nat.le_of_ble_eq_true rfl) hlo) (Nat.le_trans (Nat.le_of_ble_eq_true rfl) hce) (Nat.le_trans (Nat.le_of_ble_eq_true rfl) hsl) hH hS (fun v σa t0 H locs hp727 ht0 hvm hzz hH hS => ?_) (fun _ _ _ _ _ hz _ _ _ _ _ => by cases hz.1)
  obtain ⟨ho, hσ⟩ := hp727
  cases ho
  rw [hσ] at hH
  refine W.eq (g2 := F0 m 12 ls [.int (nI 1), .ref (ad 13 0)]) rfl ?_
  refine lv_if_eq (tgt := 24) x.1 x.2.1 dd_md_ask_12 (by decide) (fun c728 => absurd c728 (by decide +kernel)) (fun c728 => ?_)
  refine lv_iload_n x.1 x.2.1 dd_md_ask_15 rfl (lv_at hl 3 rfl) ?_
  refine lv_ldc (v := 100001) x.1 x.2.1 x.2.2.2.1 (x.2.2.2.2.1 _ ww_825) dd_md_ask_16 ?_
  refine mn_top (w := nI 100001) (by decide +kernel) ?_
  refine mp_call x (wt_mv base) hG hB hl.1 (mp_invS (av := [.int (nI q0), .int (nI 100001)]) x mn_md_within mc_md_within (Or.inl ww_811) ww_812 ww_60 rfl dd_md_ask_18) (kk_M_within_ok (in_ok (by omega) (by decide))) (Nat.le_trans (Nat.le_of_ble_eq_true rfl) hfr) (Nat.le_trans (Nat.le_of_ble_eq_true rfl) hlo) (Nat.le_trans (Nat.le_of_ble_eq_true rfl) hce) (Nat.le_trans (Nat.le_of_ble_eq_true rfl) hsl) hH hS (fun v σa t0 H locs hp729 ht0 hvm hzz hH hS => ?_) (fun _ _ _ _ _ hz _ _ _ _ _ => by cases hz.1)
  obtain ⟨ho, hσ⟩ := hp729
  cases ho
  rw [hσ] at hH
  refine W.eq (g2 := F0 m 21 ls [.int (nI 1), .ref (ad 13 0)]) rfl ?_
  refine lv_if_ne (tgt := 28) x.1 x.2.1 dd_md_ask_21 (by decide) (fun c730 => ?_) (fun c730 => absurd c730 (by decide +kernel))
  refine lv_iconst (v := nI 0) x.1 x.2.1 dd_md_ask_28 (by decide +kernel) ?_
  refine lv_iconst (v := nI 1) x.1 x.2.1 dd_md_ask_29 (by decide +kernel) ?_
  refine mp_call x (wt_mv base) hG hB hl.1 (mp_invV (av := [.int (nI 0), .int (nI 1)]) x hH (la13 hL) rfl rfl mn_md_fails mc_md_fails (Or.inl ww_814) ww_816 ww_41 rfl dd_md_ask_30) (kk_M_fails0 hL) (Nat.le_trans (Nat.le_of_ble_eq_true rfl) hfr) (Nat.le_trans (Nat.le_of_ble_eq_true rfl) hlo) (Nat.le_trans (Nat.le_of_ble_eq_true rfl) hce) (Nat.le_trans (Nat.le_of_ble_eq_true rfl) hsl) hH hS (fun v σa t0 H locs hp731 ht0 hvm hzz hH hS => ?_) (fun _ _ _ _ _ hz _ _ _ _ _ => by cases hz.1)
  obtain ⟨ho, hL⟩ := hp731
  cases ho
  refine W.eq (g2 := F0 m 33 ls [.int (nI 0)]) rfl ?_
  refine lv_if_eq (tgt := 38) x.1 x.2.1 dd_md_ask_33 (by decide) (fun c732 => ?_) (fun c732 => absurd (by decide +kernel) c732)
  refine lv_iload_n x.1 x.2.1 dd_md_ask_38 rfl (lv_at hl 1 rfl) ?_
  refine lv_iload_n x.1 x.2.1 dd_md_ask_39 rfl (lv_at hl 2 rfl) ?_
  refine mp_call x (wt_mv base) hG hB hl.1 (mp_invS (av := [.int (nI a0), .int (nI b0)]) x mn_md_at mc_md_at (Or.inl ww_826) ww_827 ww_60 rfl dd_md_ask_40) (kk_M_at (a0 := a0) (b0 := b0)) (Nat.le_trans (Nat.le_of_ble_eq_true rfl) hfr) (Nat.le_trans (Nat.le_of_ble_eq_true rfl) hlo) (Nat.le_trans (Nat.le_of_ble_eq_true rfl) hce) (Nat.le_trans (Nat.le_of_ble_eq_true rfl) hsl) hH hS (fun v σa t0 H locs hp733 ht0 hvm hzz hH hS => ?_) (fun _ _ _ _ _ hz _ _ _ _ _ => by cases hz.1)
  obtain ⟨ho, hσ⟩ := hp733
  cases ho
  rw [hσ] at hH
  refine W.eq (g2 := F0 m 43 ls [.int (nI (20 * a0 + b0))]) rfl ?_
  refine mn_top (w := nI a) (congrArg nI hA) ?_
  refine lv_istore (lv' := [(4, .int (nI a)), (0, .ref (ad 13 0)), (1, .int (nI a0)), (2, .int (nI b0)), (3, .int (nI q0))]) x.1 x.2.1 dd_md_ask_43 hl (by decide) rfl (fun ls hl => ?_)
  refine lv_aload_n x.1 x.2.1 dd_md_ask_45 rfl (lv_at hl 1 rfl) ?_
  refine mp_get x hH (la13 hL) fg_md_7 rfl dd_md_ask_46 ?_
  refine lv_iload_n x.1 x.2.1 dd_md_ask_49 rfl (lv_at hl 3 rfl) ?_
  refine ka_ld x hH hL 0 (j := b0) (by decide) (by decide) (show b0 < 20 from (by omega)) (by decide) dd_md_ask_50 ?_
  refine mn_top (w := nI sp) ((mu_k (by decide)).trans (hz)) ?_
  refine lv_if_le (tgt := 83) x.1 x.2.1 dd_md_ask_51 (by decide) (fun c734 => absurd c734 (fun h => absurd ((cv_le (a := sp) (b := 0) (by omega) (by omega)).mp h) (by omega))) (fun c734 => ?_)
  refine lv_aload_n x.1 x.2.1 dd_md_ask_54 rfl (lv_at hl 1 rfl) ?_
  refine mp_get x hH (la13 hL) fg_md_16 rfl dd_md_ask_55 ?_
  refine lv_iload_n x.1 x.2.1 dd_md_ask_58 rfl (lv_at hl 2 rfl) ?_
  refine kz_ld x hH hL (j := a0) (by omega) dd_md_ask_59 ?_
  refine mn_top (w := nI 0) ((mu_k (by decide)).trans (hdn)) ?_
  refine lv_if_ne (tgt := 83) x.1 x.2.1 dd_md_ask_60 (by decide) (fun c735 => absurd (by decide +kernel) c735) (fun c735 => ?_)
  refine lv_aload_n x.1 x.2.1 dd_md_ask_63 rfl (lv_at hl 1 rfl) ?_
  refine mp_get x hH (la13 hL) fg_md_20 rfl dd_md_ask_64 ?_
  refine lv_iload x.1 x.2.1 dd_md_ask_67 (lv_at hl 0 rfl) ?_
  refine ka_ld x hH hL 3 (j := a) (by decide) (by decide) (show a < 500 from (by omega)) (by decide) dd_md_ask_69 ?_
  refine mn_top (w := nI dc) ((mu_k (by decide)).trans (hdc)) ?_
  refine lv_aload_n x.1 x.2.1 dd_md_ask_70 rfl (lv_at hl 1 rfl) ?_
  refine mp_get x hH (la13 hL) fg_md_7 rfl dd_md_ask_71 ?_
  refine lv_iload_n x.1 x.2.1 dd_md_ask_74 rfl (lv_at hl 3 rfl) ?_
  refine ka_ld x hH hL 0 (j := b0) (by decide) (by decide) (show b0 < 20 from (by omega)) (by decide) dd_md_ask_75 ?_
  refine mn_top (w := nI sp) ((mu_k (by decide)).trans (hz)) ?_
  refine lv_icmp_ge (tgt := 83) x.1 x.2.1 dd_md_ask_76 (by decide) (fun c736 => ?_) (fun c736 => absurd ((cv_le (a := sp) (b := dc) (by omega) (by omega)).mpr (by omega)) c736)
  refine lv_iconst (v := nI 0) x.1 x.2.1 dd_md_ask_83 (by decide +kernel) ?_
  refine lv_istore (lv' := [(5, .int (nI 0)), (4, .int (nI a)), (0, .ref (ad 13 0)), (1, .int (nI a0)), (2, .int (nI b0)), (3, .int (nI q0))]) x.1 x.2.1 dd_md_ask_84 hl (by decide) rfl (fun ls hl => ?_)
  refine lv_aload_n x.1 x.2.1 dd_md_ask_86 rfl (lv_at hl 2 rfl) ?_
  refine lv_iload x.1 x.2.1 dd_md_ask_87 (lv_at hl 0 rfl) ?_
  refine lv_if_eq (tgt := 133) x.1 x.2.1 dd_md_ask_89 (by decide) (fun c737 => ?_) (fun c737 => absurd (by decide +kernel) c737)
  refine lv_iconst (v := nI 1) x.1 x.2.1 dd_md_ask_133 (by decide +kernel) ?_
  refine lv_goto (tgt := 138) x.1 x.2.1 dd_md_ask_134 (by decide) ?_
  refine lv_iconst (v := nI 2) x.1 x.2.1 dd_md_ask_138 (by decide +kernel) ?_
  refine mp_call x (wt_mv base) hG hB hl.1 (mp_invV (av := [.int (nI 1), .int (nI 2)]) x hH (la13 hL) rfl rfl mn_md_fails mc_md_fails (Or.inl ww_814) ww_816 ww_41 rfl dd_md_ask_139) (kk_M_fails1 hL) (Nat.le_trans (Nat.le_of_ble_eq_true rfl) hfr) (Nat.le_trans (Nat.le_of_ble_eq_true rfl) hlo) (Nat.le_trans (Nat.le_of_ble_eq_true rfl) hce) (Nat.le_trans (Nat.le_of_ble_eq_true rfl) hsl) hH hS (fun v σa t0 H locs hp738 ht0 hvm hzz hH hS => ?_) (fun _ _ _ _ _ hz _ _ _ _ _ => by cases hz.1)
  obtain ⟨ho, hL⟩ := hp738
  cases ho
  refine W.eq (g2 := F0 m 142 ls [.int (nI 1)]) rfl ?_
  refine lv_if_eq (tgt := 147) x.1 x.2.1 dd_md_ask_142 (by decide) (fun c739 => absurd c739 (by decide +kernel)) (fun c739 => ?_)
  refine lv_iconst (v := nI 0) x.1 x.2.1 dd_md_ask_145 (by decide +kernel) ?_
  exact mp_ri x hr hlk (by decide) (by decide) hH hS (fun _ => ⟨rfl, hL⟩) dd_md_ask_146
set_option maxRecDepth 100000 in
set_option maxHeartbeats 4000000 in
theorem kk_MX_ask_2d {l : Launch} {D : va_G} {ar : Nat → ClassId} {base : Nat} {σ : mp_M} {ad : Nat → Nat → Nat} {rg : Nat → Bool} {pl : Nat → Nat} {V M : fV} {a0 b0 a q0 sp dc : Nat} (hL : Lay ar ad rg pl V M σ) (hA : 20 * a0 + b0 = a) (ha : a0 < 25) (hb : b0 < 20) (hq0 : q0 ≤ 100000) (hz : M 0 b0 = nI sp) (hsp : dc < sp) (hsp2 : sp ≤ 12) (hdn : M 2 a0 = nI 0) (hdc : M 3 a = nI dc) (hd0 : 0 < dc) (hday : nI q0 < M 10 (12 * a + dc - 1) + M 1 b0) : CN l D ar base yy_md_ask prog_9_method_14_code 6 (Option.some Jvm.ClassFile.FieldType.int) [] 2 26 0 0 [.ref (ad 13 0), .int (nI a0), .int (nI b0), .int (nI q0)] σ (fun o σ' _ => o = .returned (some (.int (nI 0))) ∧ Lay ar ad rg pl V (mu (mu M 27 0 (nI 0)) 27 0 (nI 2)) σ') := by
  refine mp_in (Nat.le_of_ble_eq_true rfl) ?_
  intro p e R s m below meth c x hfr hlo hce hsl hr hlk hin hex hG hB ls H hH0 hH hS hl
  have hl : lv_has ls 6 [(0, .ref (ad 13 0)), (1, .int (nI a0)), (2, .int (nI b0)), (3, .int (nI q0))] := hl
  refine lv_aload_n x.1 x.2.1 dd_md_ask_0 rfl (lv_at hl 0 rfl) ?_
  refine lv_iload_n x.1 x.2.1 dd_md_ask_1 rfl (lv_at hl 1 rfl) ?_
  refine mp_call x (wt_mv base) hG hB hl.1 (mp_invS (av := [.int (nI a0)]) x mn_md_isShop mc_md_isShop (Or.inl ww_822) ww_823 ww_60 rfl dd_md_ask_2) (kk_M_isShop_ok (in_ok (by omega) (by decide))) (Nat.le_trans (Nat.le_of_ble_eq_true rfl) hfr) (Nat.le_trans (Nat.le_of_ble_eq_true rfl) hlo) (Nat.le_trans (Nat.le_of_ble_eq_true rfl) hce) (Nat.le_trans (Nat.le_of_ble_eq_true rfl) hsl) hH hS (fun v σa t0 H locs hp757 ht0 hvm hzz hH hS => ?_) (fun _ _ _ _ _ hz _ _ _ _ _ => by cases hz.1)
  obtain ⟨ho, hσ⟩ := hp757
  cases ho
  rw [hσ] at hH
  refine W.eq (g2 := F0 m 5 ls [.int (nI 1), .ref (ad 13 0)]) rfl ?_
  refine lv_if_eq (tgt := 24) x.1 x.2.1 dd_md_ask_5 (by decide) (fun c758 => absurd c758 (by decide +kernel)) (fun c758 => ?_)
  refine lv_iload_n x.1 x.2.1 dd_md_ask_8 rfl (lv_at hl 2 rfl) ?_
  refine mp_call x (wt_mv base) hG hB hl.1 (mp_invS (av := [.int (nI b0)]) x mn_md_isPrescription mc_md_isPrescription (Or.inl ww_808) ww_809 ww_60 rfl dd_md_ask_9) (kk_M_isPrescription_ok (in_ok (by omega) (by decide))) (Nat.le_trans (Nat.le_of_ble_eq_true rfl) hfr) (Nat.le_trans (Nat.le_of_ble_eq_true rfl) hlo) (Nat.le_trans (Nat.le_of_ble_eq_true rfl) hce) (Nat.le_trans (Nat.le_of_ble_eq_true rfl) hsl) hH hS (fun v σa t0 H locs hp759 ht0 hvm hzz hH hS => ?_) (fun _ _ _ _ _ hz _ _ _ _ _ => by cases hz.1)
  obtain ⟨ho, hσ⟩ := hp759
  cases ho
  rw [hσ] at hH
  refine W.eq (g2 := F0 m 12 ls [.int (nI 1), .ref (ad 13 0)]) rfl ?_
  refine lv_if_eq (tgt := 24) x.1 x.2.1 dd_md_ask_12 (by decide) (fun c760 => absurd c760 (by decide +kernel)) (fun c760 => ?_)
  refine lv_iload_n x.1 x.2.1 dd_md_ask_15 rfl (lv_at hl 3 rfl) ?_
  refine lv_ldc (v := 100001) x.1 x.2.1 x.2.2.2.1 (x.2.2.2.2.1 _ ww_825) dd_md_ask_16 ?_
  refine mn_top (w := nI 100001) (by decide +kernel) ?_
  refine mp_call x (wt_mv base) hG hB hl.1 (mp_invS (av := [.int (nI q0), .int (nI 100001)]) x mn_md_within mc_md_within (Or.inl ww_811) ww_812 ww_60 rfl dd_md_ask_18) (kk_M_within_ok (in_ok (by omega) (by decide))) (Nat.le_trans (Nat.le_of_ble_eq_true rfl) hfr) (Nat.le_trans (Nat.le_of_ble_eq_true rfl) hlo) (Nat.le_trans (Nat.le_of_ble_eq_true rfl) hce) (Nat.le_trans (Nat.le_of_ble_eq_true rfl) hsl) hH hS (fun v σa t0 H locs hp761 ht0 hvm hzz hH hS => ?_) (fun _ _ _ _ _ hz _ _ _ _ _ => by cases hz.1)
  obtain ⟨ho, hσ⟩ := hp761
  cases ho
  rw [hσ] at hH
  refine W.eq (g2 := F0 m 21 ls [.int (nI 1), .ref (ad 13 0)]) rfl ?_
  refine lv_if_ne (tgt := 28) x.1 x.2.1 dd_md_ask_21 (by decide) (fun c762 => ?_) (fun c762 => absurd c762 (by decide +kernel))
  refine lv_iconst (v := nI 0) x.1 x.2.1 dd_md_ask_28 (by decide +kernel) ?_
  refine lv_iconst (v := nI 1) x.1 x.2.1 dd_md_ask_29 (by decide +kernel) ?_
  refine mp_call x (wt_mv base) hG hB hl.1 (mp_invV (av := [.int (nI 0), .int (nI 1)]) x hH (la13 hL) rfl rfl mn_md_fails mc_md_fails (Or.inl ww_814) ww_816 ww_41 rfl dd_md_ask_30) (kk_M_fails0 hL) (Nat.le_trans (Nat.le_of_ble_eq_true rfl) hfr) (Nat.le_trans (Nat.le_of_ble_eq_true rfl) hlo) (Nat.le_trans (Nat.le_of_ble_eq_true rfl) hce) (Nat.le_trans (Nat.le_of_ble_eq_true rfl) hsl) hH hS (fun v σa t0 H locs hp763 ht0 hvm hzz hH hS => ?_) (fun _ _ _ _ _ hz _ _ _ _ _ => by cases hz.1)
  obtain ⟨ho, hL⟩ := hp763
  cases ho
  refine W.eq (g2 := F0 m 33 ls [.int (nI 0)]) rfl ?_
  refine lv_if_eq (tgt := 38) x.1 x.2.1 dd_md_ask_33 (by decide) (fun c764 => ?_) (fun c764 => absurd (by decide +kernel) c764)
  refine lv_iload_n x.1 x.2.1 dd_md_ask_38 rfl (lv_at hl 1 rfl) ?_
  refine lv_iload_n x.1 x.2.1 dd_md_ask_39 rfl (lv_at hl 2 rfl) ?_
  refine mp_call x (wt_mv base) hG hB hl.1 (mp_invS (av := [.int (nI a0), .int (nI b0)]) x mn_md_at mc_md_at (Or.inl ww_826) ww_827 ww_60 rfl dd_md_ask_40) (kk_M_at (a0 := a0) (b0 := b0)) (Nat.le_trans (Nat.le_of_ble_eq_true rfl) hfr) (Nat.le_trans (Nat.le_of_ble_eq_true rfl) hlo) (Nat.le_trans (Nat.le_of_ble_eq_true rfl) hce) (Nat.le_trans (Nat.le_of_ble_eq_true rfl) hsl) hH hS (fun v σa t0 H locs hp765 ht0 hvm hzz hH hS => ?_) (fun _ _ _ _ _ hz _ _ _ _ _ => by cases hz.1)
  obtain ⟨ho, hσ⟩ := hp765
  cases ho
  rw [hσ] at hH
  refine W.eq (g2 := F0 m 43 ls [.int (nI (20 * a0 + b0))]) rfl ?_
  refine mn_top (w := nI a) (congrArg nI hA) ?_
  refine lv_istore (lv' := [(4, .int (nI a)), (0, .ref (ad 13 0)), (1, .int (nI a0)), (2, .int (nI b0)), (3, .int (nI q0))]) x.1 x.2.1 dd_md_ask_43 hl (by decide) rfl (fun ls hl => ?_)
  refine lv_aload_n x.1 x.2.1 dd_md_ask_45 rfl (lv_at hl 1 rfl) ?_
  refine mp_get x hH (la13 hL) fg_md_7 rfl dd_md_ask_46 ?_
  refine lv_iload_n x.1 x.2.1 dd_md_ask_49 rfl (lv_at hl 3 rfl) ?_
  refine ka_ld x hH hL 0 (j := b0) (by decide) (by decide) (show b0 < 20 from (by omega)) (by decide) dd_md_ask_50 ?_
  refine mn_top (w := nI sp) ((mu_k (by decide)).trans (hz)) ?_
  refine lv_if_le (tgt := 83) x.1 x.2.1 dd_md_ask_51 (by decide) (fun c766 => absurd c766 (fun h => absurd ((cv_le (a := sp) (b := 0) (by omega) (by omega)).mp h) (by omega))) (fun c766 => ?_)
  refine lv_aload_n x.1 x.2.1 dd_md_ask_54 rfl (lv_at hl 1 rfl) ?_
  refine mp_get x hH (la13 hL) fg_md_16 rfl dd_md_ask_55 ?_
  refine lv_iload_n x.1 x.2.1 dd_md_ask_58 rfl (lv_at hl 2 rfl) ?_
  refine kz_ld x hH hL (j := a0) (by omega) dd_md_ask_59 ?_
  refine mn_top (w := nI 0) ((mu_k (by decide)).trans (hdn)) ?_
  refine lv_if_ne (tgt := 83) x.1 x.2.1 dd_md_ask_60 (by decide) (fun c767 => absurd (by decide +kernel) c767) (fun c767 => ?_)
  refine lv_aload_n x.1 x.2.1 dd_md_ask_63 rfl (lv_at hl 1 rfl) ?_
  refine mp_get x hH (la13 hL) fg_md_20 rfl dd_md_ask_64 ?_
  refine lv_iload x.1 x.2.1 dd_md_ask_67 (lv_at hl 0 rfl) ?_
  refine ka_ld x hH hL 3 (j := a) (by decide) (by decide) (show a < 500 from (by omega)) (by decide) dd_md_ask_69 ?_
  refine mn_top (w := nI dc) ((mu_k (by decide)).trans (hdc)) ?_
  refine lv_aload_n x.1 x.2.1 dd_md_ask_70 rfl (lv_at hl 1 rfl) ?_
  refine mp_get x hH (la13 hL) fg_md_7 rfl dd_md_ask_71 ?_
  refine lv_iload_n x.1 x.2.1 dd_md_ask_74 rfl (lv_at hl 3 rfl) ?_
  refine ka_ld x hH hL 0 (j := b0) (by decide) (by decide) (show b0 < 20 from (by omega)) (by decide) dd_md_ask_75 ?_
  refine mn_top (w := nI sp) ((mu_k (by decide)).trans (hz)) ?_
  refine lv_icmp_ge (tgt := 83) x.1 x.2.1 dd_md_ask_76 (by decide) (fun c768 => absurd c768 (fun h => absurd ((cv_le (a := sp) (b := dc) (by omega) (by omega)).mp h) (by omega))) (fun c768 => ?_)
  refine lv_iconst (v := nI 1) x.1 x.2.1 dd_md_ask_79 (by decide +kernel) ?_
  refine lv_goto (tgt := 84) x.1 x.2.1 dd_md_ask_80 (by decide) ?_
  refine lv_istore (lv' := [(5, .int (nI 1)), (4, .int (nI a)), (0, .ref (ad 13 0)), (1, .int (nI a0)), (2, .int (nI b0)), (3, .int (nI q0))]) x.1 x.2.1 dd_md_ask_84 hl (by decide) rfl (fun ls hl => ?_)
  refine lv_aload_n x.1 x.2.1 dd_md_ask_86 rfl (lv_at hl 2 rfl) ?_
  refine lv_iload x.1 x.2.1 dd_md_ask_87 (lv_at hl 0 rfl) ?_
  refine lv_if_eq (tgt := 133) x.1 x.2.1 dd_md_ask_89 (by decide) (fun c769 => absurd c769 (by decide +kernel)) (fun c769 => ?_)
  refine lv_aload_n x.1 x.2.1 dd_md_ask_92 rfl (lv_at hl 2 rfl) ?_
  refine mp_get x hH (la13 hL) fg_md_20 rfl dd_md_ask_93 ?_
  refine lv_iload x.1 x.2.1 dd_md_ask_96 (lv_at hl 1 rfl) ?_
  refine ka_ld x hH hL 3 (j := a) (by decide) (by decide) (show a < 500 from (by omega)) (by decide) dd_md_ask_98 ?_
  refine mn_top (w := nI dc) ((mu_k (by decide)).trans (hdc)) ?_
  refine lv_if_le (tgt := 137) x.1 x.2.1 dd_md_ask_99 (by decide) (fun c770 => absurd c770 (fun h => absurd ((cv_le (a := dc) (b := 0) (by omega) (by omega)).mp h) (by omega))) (fun c770 => ?_)
  refine lv_iload_n x.1 x.2.1 dd_md_ask_102 rfl (lv_at hl 5 rfl) ?_
  refine lv_aload_n x.1 x.2.1 dd_md_ask_103 rfl (lv_at hl 2 rfl) ?_
  refine mp_get x hH (la13 hL) fg_md_41 rfl dd_md_ask_104 ?_
  refine lv_bipush (v := nI 12) x.1 x.2.1 dd_md_ask_107 (by decide +kernel) ?_
  refine lv_iload x.1 x.2.1 dd_md_ask_109 (lv_at hl 1 rfl) ?_
  refine lv_imul x.1 x.2.1 dd_md_ask_111 ?_
  refine mn_top (w := nI (12 * a)) (pk_mul _ _) ?_
  refine lv_aload_n x.1 x.2.1 dd_md_ask_112 rfl (lv_at hl 2 rfl) ?_
  refine mp_get x hH (la13 hL) fg_md_20 rfl dd_md_ask_113 ?_
  refine lv_iload x.1 x.2.1 dd_md_ask_116 (lv_at hl 1 rfl) ?_
  refine ka_ld x hH hL 3 (j := a) (by decide) (by decide) (show a < 500 from (by omega)) (by decide) dd_md_ask_118 ?_
  refine mn_top (w := nI dc) ((mu_k (by decide)).trans (hdc)) ?_
  refine lv_iadd x.1 x.2.1 dd_md_ask_119 ?_
  refine mn_top (w := nI (12 * a + dc)) (nI_add _ _) ?_
  refine lv_iconst (v := nI 1) x.1 x.2.1 dd_md_ask_120 (by decide +kernel) ?_
  refine lv_isub x.1 x.2.1 dd_md_ask_121 ?_
  refine mn_top (w := nI (12 * a + dc - 1)) (pk_sub (by omega)) ?_
  refine ka_ld x hH hL 10 (j := 12 * a + dc - 1) (by decide) (by decide) (show 12 * a + dc - 1 < 6000 from (by omega)) (by decide) dd_md_ask_122 ?_
  refine mn_top (w := M 10 (12 * a + dc - 1)) (mu_k (by decide)) ?_
  refine lv_aload_n x.1 x.2.1 dd_md_ask_123 rfl (lv_at hl 2 rfl) ?_
  refine mp_get x hH (la13 hL) fg_md_13 rfl dd_md_ask_124 ?_
  refine lv_iload_n x.1 x.2.1 dd_md_ask_127 rfl (lv_at hl 4 rfl) ?_
  refine ka_ld x hH hL 1 (j := b0) (by decide) (by decide) (show b0 < 20 from (by omega)) (by decide) dd_md_ask_128 ?_
  refine mn_top (w := M 1 b0) (mu_k (by decide)) ?_
  refine lv_iadd x.1 x.2.1 dd_md_ask_129 ?_
  refine lv_icmp_ge (tgt := 137) x.1 x.2.1 dd_md_ask_130 (by decide) (fun c771 => absurd c771 (Int32.not_le.mpr hday)) (fun c771 => ?_)
  refine lv_iconst (v := nI 1) x.1 x.2.1 dd_md_ask_133 (by decide +kernel) ?_
  refine lv_goto (tgt := 138) x.1 x.2.1 dd_md_ask_134 (by decide) ?_
  refine lv_iconst (v := nI 2) x.1 x.2.1 dd_md_ask_138 (by decide +kernel) ?_
  refine mp_call x (wt_mv base) hG hB hl.1 (mp_invV (av := [.int (nI 1), .int (nI 2)]) x hH (la13 hL) rfl rfl mn_md_fails mc_md_fails (Or.inl ww_814) ww_816 ww_41 rfl dd_md_ask_139) (kk_M_fails1 hL) (Nat.le_trans (Nat.le_of_ble_eq_true rfl) hfr) (Nat.le_trans (Nat.le_of_ble_eq_true rfl) hlo) (Nat.le_trans (Nat.le_of_ble_eq_true rfl) hce) (Nat.le_trans (Nat.le_of_ble_eq_true rfl) hsl) hH hS (fun v σa t0 H locs hp772 ht0 hvm hzz hH hS => ?_) (fun _ _ _ _ _ hz _ _ _ _ _ => by cases hz.1)
  obtain ⟨ho, hL⟩ := hp772
  cases ho
  refine W.eq (g2 := F0 m 142 ls [.int (nI 1)]) rfl ?_
  refine lv_if_eq (tgt := 147) x.1 x.2.1 dd_md_ask_142 (by decide) (fun c773 => absurd c773 (by decide +kernel)) (fun c773 => ?_)
  refine lv_iconst (v := nI 0) x.1 x.2.1 dd_md_ask_145 (by decide +kernel) ?_
  exact mp_ri x hr hlk (by decide) (by decide) hH hS (fun _ => ⟨rfl, hL⟩) dd_md_ask_146
set_option maxRecDepth 100000 in
set_option maxHeartbeats 4000000 in
theorem kk_MX_retry_0 {l : Launch} {D : va_G} {ar : Nat → ClassId} {base : Nat} {σ : mp_M} {ad : Nat → Nat → Nat} {rg : Nat → Bool} {pl : Nat → Nat} {V M : fV} {a0 b0 a n dc g pr rf nx : Nat} (hL : Lay ar ad rg pl V M σ) (hA : 20 * a0 + b0 = a) (ha : a0 < 25) (hb : b0 < 20) (hn : M 22 0 = nI n) (hn2 : n ≤ 100) (hdc : M 3 a = nI dc) (hdl : dc ≤ 12) (h1 : M 8 a = nI g) (h2 : M 4 a = nI pr) (h3 : M 20 a = nI rf) (hg : g < 2 ^ 30) (hp : pr < 2 ^ 30) (hr9 : rf < 2 ^ 30) (hnx : nxt (mx g (mx pr rf)) a0 = nx) (hdn : M 2 a0 = nI 0) (hak : ¬ M 11 a = 0) : CN l D ar base yy_md_retry prog_9_method_15_code 3 (Option.some Jvm.ClassFile.FieldType.int) [] 3 55 0 0 [.ref (ad 13 0), .int (nI a0), .int (nI b0)] σ (fun o σ' _ => o = .returned (some (.int (if nx = 0 then nI 0 else nI 25))) ∧ Lay ar ad rg pl V (mrd (mu (mu M 27 0 (nI 0)) 27 0 (nI 0)) n a dc a0 b0 nx) σ') := by
  refine mp_in (Nat.le_of_ble_eq_true rfl) ?_
  intro p e R s m below meth c x hfr hlo hce hsl hr hlk hin hex hG hB ls H hH0 hH hS hl
  have hl : lv_has ls 3 [(0, .ref (ad 13 0)), (1, .int (nI a0)), (2, .int (nI b0))] := hl
  refine lv_aload_n x.1 x.2.1 dd_md_retry_0 rfl (lv_at hl 0 rfl) ?_
  refine lv_iload_n x.1 x.2.1 dd_md_retry_1 rfl (lv_at hl 1 rfl) ?_
  refine mp_call x (wt_mv base) hG hB hl.1 (mp_invS (av := [.int (nI a0)]) x mn_md_isShop mc_md_isShop (Or.inl ww_822) ww_823 ww_60 rfl dd_md_retry_2) (kk_M_isShop_ok (in_ok (by omega) (by decide))) (Nat.le_trans (Nat.le_of_ble_eq_true rfl) hfr) (Nat.le_trans (Nat.le_of_ble_eq_true rfl) hlo) (Nat.le_trans (Nat.le_of_ble_eq_true rfl) hce) (Nat.le_trans (Nat.le_of_ble_eq_true rfl) hsl) hH hS (fun v σa t0 H locs hp774 ht0 hvm hzz hH hS => ?_) (fun _ _ _ _ _ hz _ _ _ _ _ => by cases hz.1)
  obtain ⟨ho, hσ⟩ := hp774
  cases ho
  rw [hσ] at hH
  refine W.eq (g2 := F0 m 5 ls [.int (nI 1), .ref (ad 13 0)]) rfl ?_
  refine lv_if_eq (tgt := 15) x.1 x.2.1 dd_md_retry_5 (by decide) (fun c775 => absurd c775 (by decide +kernel)) (fun c775 => ?_)
  refine lv_iload_n x.1 x.2.1 dd_md_retry_8 rfl (lv_at hl 2 rfl) ?_
  refine mp_call x (wt_mv base) hG hB hl.1 (mp_invS (av := [.int (nI b0)]) x mn_md_isPrescription mc_md_isPrescription (Or.inl ww_808) ww_809 ww_60 rfl dd_md_retry_9) (kk_M_isPrescription_ok (in_ok (by omega) (by decide))) (Nat.le_trans (Nat.le_of_ble_eq_true rfl) hfr) (Nat.le_trans (Nat.le_of_ble_eq_true rfl) hlo) (Nat.le_trans (Nat.le_of_ble_eq_true rfl) hce) (Nat.le_trans (Nat.le_of_ble_eq_true rfl) hsl) hH hS (fun v σa t0 H locs hp776 ht0 hvm hzz hH hS => ?_) (fun _ _ _ _ _ hz _ _ _ _ _ => by cases hz.1)
  obtain ⟨ho, hσ⟩ := hp776
  cases ho
  rw [hσ] at hH
  refine W.eq (g2 := F0 m 12 ls [.int (nI 1), .ref (ad 13 0)]) rfl ?_
  refine lv_if_ne (tgt := 19) x.1 x.2.1 dd_md_retry_12 (by decide) (fun c777 => ?_) (fun c777 => absurd c777 (by decide +kernel))
  refine lv_iconst (v := nI 0) x.1 x.2.1 dd_md_retry_19 (by decide +kernel) ?_
  refine lv_iconst (v := nI 1) x.1 x.2.1 dd_md_retry_20 (by decide +kernel) ?_
  refine mp_call x (wt_mv base) hG hB hl.1 (mp_invV (av := [.int (nI 0), .int (nI 1)]) x hH (la13 hL) rfl rfl mn_md_fails mc_md_fails (Or.inl ww_814) ww_816 ww_41 rfl dd_md_retry_21) (kk_M_fails0 hL) (Nat.le_trans (Nat.le_of_ble_eq_true rfl) hfr) (Nat.le_trans (Nat.le_of_ble_eq_true rfl) hlo) (Nat.le_trans (Nat.le_of_ble_eq_true rfl) hce) (Nat.le_trans (Nat.le_of_ble_eq_true rfl) hsl) hH hS (fun v σa t0 H locs hp778 ht0 hvm hzz hH hS => ?_) (fun _ _ _ _ _ hz _ _ _ _ _ => by cases hz.1)
  obtain ⟨ho, hL⟩ := hp778
  cases ho
  refine W.eq (g2 := F0 m 24 ls [.int (nI 0)]) rfl ?_
  refine lv_if_eq (tgt := 29) x.1 x.2.1 dd_md_retry_24 (by decide) (fun c779 => ?_) (fun c779 => absurd (by decide +kernel) c779)
  refine lv_aload_n x.1 x.2.1 dd_md_retry_29 rfl (lv_at hl 0 rfl) ?_
  refine lv_aload_n x.1 x.2.1 dd_md_retry_30 rfl (lv_at hl 0 rfl) ?_
  refine mp_get x hH (la13 hL) fg_md_16 rfl dd_md_retry_31 ?_
  refine lv_iload_n x.1 x.2.1 dd_md_retry_34 rfl (lv_at hl 1 rfl) ?_
  refine kz_ld x hH hL (j := a0) (by omega) dd_md_retry_35 ?_
  refine mn_top (w := nI 0) ((mu_k (by decide)).trans (hdn)) ?_
  refine lv_if_ne (tgt := 52) x.1 x.2.1 dd_md_retry_36 (by decide) (fun c780 => absurd (by decide +kernel) c780) (fun c780 => ?_)
  refine lv_aload_n x.1 x.2.1 dd_md_retry_39 rfl (lv_at hl 0 rfl) ?_
  refine mp_get x hH (la13 hL) fg_md_44 rfl dd_md_retry_40 ?_
  refine lv_iload_n x.1 x.2.1 dd_md_retry_43 rfl (lv_at hl 1 rfl) ?_
  refine lv_iload_n x.1 x.2.1 dd_md_retry_44 rfl (lv_at hl 2 rfl) ?_
  refine mp_call x (wt_mv base) hG hB hl.1 (mp_invS (av := [.int (nI a0), .int (nI b0)]) x mn_md_at mc_md_at (Or.inl ww_826) ww_827 ww_60 rfl dd_md_retry_45) (kk_M_at (a0 := a0) (b0 := b0)) (Nat.le_trans (Nat.le_of_ble_eq_true rfl) hfr) (Nat.le_trans (Nat.le_of_ble_eq_true rfl) hlo) (Nat.le_trans (Nat.le_of_ble_eq_true rfl) hce) (Nat.le_trans (Nat.le_of_ble_eq_true rfl) hsl) hH hS (fun v σa t0 H locs hp781 ht0 hvm hzz hH hS => ?_) (fun _ _ _ _ _ hz _ _ _ _ _ => by cases hz.1)
  obtain ⟨ho, hσ⟩ := hp781
  cases ho
  rw [hσ] at hH
  refine W.eq (g2 := F0 m 48 ls [.int (nI (20 * a0 + b0)), .ref (ad 14 11), .ref (ad 13 0)]) rfl ?_
  refine mn_top (w := nI a) (congrArg nI hA) ?_
  refine ka_ld x hH hL 11 (j := a) (by decide) (by decide) (show a < 500 from (by omega)) (by decide) dd_md_retry_48 ?_
  refine mn_top (w := M 11 a) (mu_k (by decide)) ?_
  refine lv_if_ne (tgt := 56) x.1 x.2.1 dd_md_retry_49 (by decide) (fun c782 => ?_) (fun c782 => absurd c782 hak)
  refine lv_iconst (v := nI 0) x.1 x.2.1 dd_md_retry_56 (by decide +kernel) ?_
  refine lv_iconst (v := nI 2) x.1 x.2.1 dd_md_retry_57 (by decide +kernel) ?_
  refine mp_call x (wt_mv base) hG hB hl.1 (mp_invV (av := [.int (nI 0), .int (nI 2)]) x hH (la13 hL) rfl rfl mn_md_fails mc_md_fails (Or.inl ww_814) ww_816 ww_41 rfl dd_md_retry_58) (kk_M_fails0 hL) (Nat.le_trans (Nat.le_of_ble_eq_true rfl) hfr) (Nat.le_trans (Nat.le_of_ble_eq_true rfl) hlo) (Nat.le_trans (Nat.le_of_ble_eq_true rfl) hce) (Nat.le_trans (Nat.le_of_ble_eq_true rfl) hsl) hH hS (fun v σa t0 H locs hp783 ht0 hvm hzz hH hS => ?_) (fun _ _ _ _ _ hz _ _ _ _ _ => by cases hz.1)
  obtain ⟨ho, hL⟩ := hp783
  cases ho
  refine W.eq (g2 := F0 m 61 ls [.int (nI 0)]) rfl ?_
  refine lv_if_eq (tgt := 66) x.1 x.2.1 dd_md_retry_61 (by decide) (fun c784 => ?_) (fun c784 => absurd (by decide +kernel) c784)
  refine lv_aload_n x.1 x.2.1 dd_md_retry_66 rfl (lv_at hl 0 rfl) ?_
  refine lv_iload_n x.1 x.2.1 dd_md_retry_67 rfl (lv_at hl 1 rfl) ?_
  refine lv_iload_n x.1 x.2.1 dd_md_retry_68 rfl (lv_at hl 2 rfl) ?_
  refine mp_call x (wt_mv base) hG hB hl.1 (mp_invV (av := [.int (nI a0), .int (nI b0)]) x hH (la13 hL) rfl rfl mn_md_round mc_md_round (Or.inl ww_833) ww_835 ww_43 rfl dd_md_retry_69) (kk_M_round (a := a) (n := n) (dc := dc) (g := g) (pr := pr) (rf := rf) (nx := nx) hL hA (by omega) (by omega) ((mu_k (by decide)).trans ((mu_k (by decide)).trans (hn))) (by omega) ((mu_k (by decide)).trans ((mu_k (by decide)).trans (hdc))) (by omega) ((mu_k (by decide)).trans ((mu_k (by decide)).trans (h1))) ((mu_k (by decide)).trans ((mu_k (by decide)).trans (h2))) ((mu_k (by decide)).trans ((mu_k (by decide)).trans (h3))) (by omega) (by omega) (by omega) hnx) (Nat.le_trans (Nat.le_of_ble_eq_true rfl) hfr) (Nat.le_trans (Nat.le_of_ble_eq_true rfl) hlo) (Nat.le_trans (Nat.le_of_ble_eq_true rfl) hce) (Nat.le_trans (Nat.le_of_ble_eq_true rfl) hsl) hH hS (fun v σa t0 H locs hp785 ht0 hvm hzz hH hS => ?_) (fun _ _ _ _ _ hz _ _ _ _ _ => by cases hz.1)
  obtain ⟨ho, hL⟩ := hp785
  cases ho
  refine W.eq (g2 := F0 m 72 ls [.int (if nx = 0 then nI 0 else nI 25)]) rfl ?_
  exact mp_ri x hr hlk (by decide) (by decide) hH hS (fun _ => ⟨rfl, hL⟩) dd_md_retry_72
set_option maxRecDepth 100000 in
set_option maxHeartbeats 4000000 in
theorem kk_MX_retry_2a {l : Launch} {D : va_G} {ar : Nat → ClassId} {base : Nat} {σ : mp_M} {ad : Nat → Nat → Nat} {rg : Nat → Bool} {pl : Nat → Nat} {V M : fV} {a0 b0 a : Nat} (hL : Lay ar ad rg pl V M σ) (hA : 20 * a0 + b0 = a) (ha : a0 < 25) (hb : b0 < 20) (hdn : M 2 a0 = nI 1) : CN l D ar base yy_md_retry prog_9_method_15_code 3 (Option.some Jvm.ClassFile.FieldType.int) [] 2 26 0 0 [.ref (ad 13 0), .int (nI a0), .int (nI b0)] σ (fun o σ' _ => o = .returned (some (.int (nI 0))) ∧ Lay ar ad rg pl V (mu (mu M 27 0 (nI 0)) 27 0 (nI 2)) σ') := by
  refine mp_in (Nat.le_of_ble_eq_true rfl) ?_
  intro p e R s m below meth c x hfr hlo hce hsl hr hlk hin hex hG hB ls H hH0 hH hS hl
  have hl : lv_has ls 3 [(0, .ref (ad 13 0)), (1, .int (nI a0)), (2, .int (nI b0))] := hl
  refine lv_aload_n x.1 x.2.1 dd_md_retry_0 rfl (lv_at hl 0 rfl) ?_
  refine lv_iload_n x.1 x.2.1 dd_md_retry_1 rfl (lv_at hl 1 rfl) ?_
  refine mp_call x (wt_mv base) hG hB hl.1 (mp_invS (av := [.int (nI a0)]) x mn_md_isShop mc_md_isShop (Or.inl ww_822) ww_823 ww_60 rfl dd_md_retry_2) (kk_M_isShop_ok (in_ok (by omega) (by decide))) (Nat.le_trans (Nat.le_of_ble_eq_true rfl) hfr) (Nat.le_trans (Nat.le_of_ble_eq_true rfl) hlo) (Nat.le_trans (Nat.le_of_ble_eq_true rfl) hce) (Nat.le_trans (Nat.le_of_ble_eq_true rfl) hsl) hH hS (fun v σa t0 H locs hp795 ht0 hvm hzz hH hS => ?_) (fun _ _ _ _ _ hz _ _ _ _ _ => by cases hz.1)
  obtain ⟨ho, hσ⟩ := hp795
  cases ho
  rw [hσ] at hH
  refine W.eq (g2 := F0 m 5 ls [.int (nI 1), .ref (ad 13 0)]) rfl ?_
  refine lv_if_eq (tgt := 15) x.1 x.2.1 dd_md_retry_5 (by decide) (fun c796 => absurd c796 (by decide +kernel)) (fun c796 => ?_)
  refine lv_iload_n x.1 x.2.1 dd_md_retry_8 rfl (lv_at hl 2 rfl) ?_
  refine mp_call x (wt_mv base) hG hB hl.1 (mp_invS (av := [.int (nI b0)]) x mn_md_isPrescription mc_md_isPrescription (Or.inl ww_808) ww_809 ww_60 rfl dd_md_retry_9) (kk_M_isPrescription_ok (in_ok (by omega) (by decide))) (Nat.le_trans (Nat.le_of_ble_eq_true rfl) hfr) (Nat.le_trans (Nat.le_of_ble_eq_true rfl) hlo) (Nat.le_trans (Nat.le_of_ble_eq_true rfl) hce) (Nat.le_trans (Nat.le_of_ble_eq_true rfl) hsl) hH hS (fun v σa t0 H locs hp797 ht0 hvm hzz hH hS => ?_) (fun _ _ _ _ _ hz _ _ _ _ _ => by cases hz.1)
  obtain ⟨ho, hσ⟩ := hp797
  cases ho
  rw [hσ] at hH
  refine W.eq (g2 := F0 m 12 ls [.int (nI 1), .ref (ad 13 0)]) rfl ?_
  refine lv_if_ne (tgt := 19) x.1 x.2.1 dd_md_retry_12 (by decide) (fun c798 => ?_) (fun c798 => absurd c798 (by decide +kernel))
  refine lv_iconst (v := nI 0) x.1 x.2.1 dd_md_retry_19 (by decide +kernel) ?_
  refine lv_iconst (v := nI 1) x.1 x.2.1 dd_md_retry_20 (by decide +kernel) ?_
  refine mp_call x (wt_mv base) hG hB hl.1 (mp_invV (av := [.int (nI 0), .int (nI 1)]) x hH (la13 hL) rfl rfl mn_md_fails mc_md_fails (Or.inl ww_814) ww_816 ww_41 rfl dd_md_retry_21) (kk_M_fails0 hL) (Nat.le_trans (Nat.le_of_ble_eq_true rfl) hfr) (Nat.le_trans (Nat.le_of_ble_eq_true rfl) hlo) (Nat.le_trans (Nat.le_of_ble_eq_true rfl) hce) (Nat.le_trans (Nat.le_of_ble_eq_true rfl) hsl) hH hS (fun v σa t0 H locs hp799 ht0 hvm hzz hH hS => ?_) (fun _ _ _ _ _ hz _ _ _ _ _ => by cases hz.1)
  obtain ⟨ho, hL⟩ := hp799
  cases ho
  refine W.eq (g2 := F0 m 24 ls [.int (nI 0)]) rfl ?_
  refine lv_if_eq (tgt := 29) x.1 x.2.1 dd_md_retry_24 (by decide) (fun c800 => ?_) (fun c800 => absurd (by decide +kernel) c800)
  refine lv_aload_n x.1 x.2.1 dd_md_retry_29 rfl (lv_at hl 0 rfl) ?_
  refine lv_aload_n x.1 x.2.1 dd_md_retry_30 rfl (lv_at hl 0 rfl) ?_
  refine mp_get x hH (la13 hL) fg_md_16 rfl dd_md_retry_31 ?_
  refine lv_iload_n x.1 x.2.1 dd_md_retry_34 rfl (lv_at hl 1 rfl) ?_
  refine kz_ld x hH hL (j := a0) (by omega) dd_md_retry_35 ?_
  refine mn_top (w := nI 1) ((mu_k (by decide)).trans (hdn)) ?_
  refine lv_if_ne (tgt := 52) x.1 x.2.1 dd_md_retry_36 (by decide) (fun c801 => ?_) (fun c801 => absurd c801 (by decide +kernel))
  refine lv_iconst (v := nI 1) x.1 x.2.1 dd_md_retry_52 (by decide +kernel) ?_
  refine lv_goto (tgt := 57) x.1 x.2.1 dd_md_retry_53 (by decide) ?_
  refine lv_iconst (v := nI 2) x.1 x.2.1 dd_md_retry_57 (by decide +kernel) ?_
  refine mp_call x (wt_mv base) hG hB hl.1 (mp_invV (av := [.int (nI 1), .int (nI 2)]) x hH (la13 hL) rfl rfl mn_md_fails mc_md_fails (Or.inl ww_814) ww_816 ww_41 rfl dd_md_retry_58) (kk_M_fails1 hL) (Nat.le_trans (Nat.le_of_ble_eq_true rfl) hfr) (Nat.le_trans (Nat.le_of_ble_eq_true rfl) hlo) (Nat.le_trans (Nat.le_of_ble_eq_true rfl) hce) (Nat.le_trans (Nat.le_of_ble_eq_true rfl) hsl) hH hS (fun v σa t0 H locs hp802 ht0 hvm hzz hH hS => ?_) (fun _ _ _ _ _ hz _ _ _ _ _ => by cases hz.1)
  obtain ⟨ho, hL⟩ := hp802
  cases ho
  refine W.eq (g2 := F0 m 61 ls [.int (nI 1)]) rfl ?_
  refine lv_if_eq (tgt := 66) x.1 x.2.1 dd_md_retry_61 (by decide) (fun c803 => absurd c803 (by decide +kernel)) (fun c803 => ?_)
  refine lv_iconst (v := nI 0) x.1 x.2.1 dd_md_retry_64 (by decide +kernel) ?_
  exact mp_ri x hr hlk (by decide) (by decide) hH hS (fun _ => ⟨rfl, hL⟩) dd_md_retry_65
set_option maxRecDepth 100000 in
set_option maxHeartbeats 4000000 in
theorem kk_MX_retry_2b {l : Launch} {D : va_G} {ar : Nat → ClassId} {base : Nat} {σ : mp_M} {ad : Nat → Nat → Nat} {rg : Nat → Bool} {pl : Nat → Nat} {V M : fV} {a0 b0 a : Nat} (hL : Lay ar ad rg pl V M σ) (hA : 20 * a0 + b0 = a) (ha : a0 < 25) (hb : b0 < 20) (hdn : M 2 a0 = nI 0) (hak : M 11 a = 0) : CN l D ar base yy_md_retry prog_9_method_15_code 3 (Option.some Jvm.ClassFile.FieldType.int) [] 2 26 0 0 [.ref (ad 13 0), .int (nI a0), .int (nI b0)] σ (fun o σ' _ => o = .returned (some (.int (nI 0))) ∧ Lay ar ad rg pl V (mu (mu M 27 0 (nI 0)) 27 0 (nI 2)) σ') := by
  refine mp_in (Nat.le_of_ble_eq_true rfl) ?_
  intro p e R s m below meth c x hfr hlo hce hsl hr hlk hin hex hG hB ls H hH0 hH hS hl
  have hl : lv_has ls 3 [(0, .ref (ad 13 0)), (1, .int (nI a0)), (2, .int (nI b0))] := hl
  refine lv_aload_n x.1 x.2.1 dd_md_retry_0 rfl (lv_at hl 0 rfl) ?_
  refine lv_iload_n x.1 x.2.1 dd_md_retry_1 rfl (lv_at hl 1 rfl) ?_
  refine mp_call x (wt_mv base) hG hB hl.1 (mp_invS (av := [.int (nI a0)]) x mn_md_isShop mc_md_isShop (Or.inl ww_822) ww_823 ww_60 rfl dd_md_retry_2) (kk_M_isShop_ok (in_ok (by omega) (by decide))) (Nat.le_trans (Nat.le_of_ble_eq_true rfl) hfr) (Nat.le_trans (Nat.le_of_ble_eq_true rfl) hlo) (Nat.le_trans (Nat.le_of_ble_eq_true rfl) hce) (Nat.le_trans (Nat.le_of_ble_eq_true rfl) hsl) hH hS (fun v σa t0 H locs hp815 ht0 hvm hzz hH hS => ?_) (fun _ _ _ _ _ hz _ _ _ _ _ => by cases hz.1)
  obtain ⟨ho, hσ⟩ := hp815
  cases ho
  rw [hσ] at hH
  refine W.eq (g2 := F0 m 5 ls [.int (nI 1), .ref (ad 13 0)]) rfl ?_
  refine lv_if_eq (tgt := 15) x.1 x.2.1 dd_md_retry_5 (by decide) (fun c816 => absurd c816 (by decide +kernel)) (fun c816 => ?_)
  refine lv_iload_n x.1 x.2.1 dd_md_retry_8 rfl (lv_at hl 2 rfl) ?_
  refine mp_call x (wt_mv base) hG hB hl.1 (mp_invS (av := [.int (nI b0)]) x mn_md_isPrescription mc_md_isPrescription (Or.inl ww_808) ww_809 ww_60 rfl dd_md_retry_9) (kk_M_isPrescription_ok (in_ok (by omega) (by decide))) (Nat.le_trans (Nat.le_of_ble_eq_true rfl) hfr) (Nat.le_trans (Nat.le_of_ble_eq_true rfl) hlo) (Nat.le_trans (Nat.le_of_ble_eq_true rfl) hce) (Nat.le_trans (Nat.le_of_ble_eq_true rfl) hsl) hH hS (fun v σa t0 H locs hp817 ht0 hvm hzz hH hS => ?_) (fun _ _ _ _ _ hz _ _ _ _ _ => by cases hz.1)
  obtain ⟨ho, hσ⟩ := hp817
  cases ho
  rw [hσ] at hH
  refine W.eq (g2 := F0 m 12 ls [.int (nI 1), .ref (ad 13 0)]) rfl ?_
  refine lv_if_ne (tgt := 19) x.1 x.2.1 dd_md_retry_12 (by decide) (fun c818 => ?_) (fun c818 => absurd c818 (by decide +kernel))
  refine lv_iconst (v := nI 0) x.1 x.2.1 dd_md_retry_19 (by decide +kernel) ?_
  refine lv_iconst (v := nI 1) x.1 x.2.1 dd_md_retry_20 (by decide +kernel) ?_
  refine mp_call x (wt_mv base) hG hB hl.1 (mp_invV (av := [.int (nI 0), .int (nI 1)]) x hH (la13 hL) rfl rfl mn_md_fails mc_md_fails (Or.inl ww_814) ww_816 ww_41 rfl dd_md_retry_21) (kk_M_fails0 hL) (Nat.le_trans (Nat.le_of_ble_eq_true rfl) hfr) (Nat.le_trans (Nat.le_of_ble_eq_true rfl) hlo) (Nat.le_trans (Nat.le_of_ble_eq_true rfl) hce) (Nat.le_trans (Nat.le_of_ble_eq_true rfl) hsl) hH hS (fun v σa t0 H locs hp819 ht0 hvm hzz hH hS => ?_) (fun _ _ _ _ _ hz _ _ _ _ _ => by cases hz.1)
  obtain ⟨ho, hL⟩ := hp819
  cases ho
  refine W.eq (g2 := F0 m 24 ls [.int (nI 0)]) rfl ?_
  refine lv_if_eq (tgt := 29) x.1 x.2.1 dd_md_retry_24 (by decide) (fun c820 => ?_) (fun c820 => absurd (by decide +kernel) c820)
  refine lv_aload_n x.1 x.2.1 dd_md_retry_29 rfl (lv_at hl 0 rfl) ?_
  refine lv_aload_n x.1 x.2.1 dd_md_retry_30 rfl (lv_at hl 0 rfl) ?_
  refine mp_get x hH (la13 hL) fg_md_16 rfl dd_md_retry_31 ?_
  refine lv_iload_n x.1 x.2.1 dd_md_retry_34 rfl (lv_at hl 1 rfl) ?_
  refine kz_ld x hH hL (j := a0) (by omega) dd_md_retry_35 ?_
  refine mn_top (w := nI 0) ((mu_k (by decide)).trans (hdn)) ?_
  refine lv_if_ne (tgt := 52) x.1 x.2.1 dd_md_retry_36 (by decide) (fun c821 => absurd (by decide +kernel) c821) (fun c821 => ?_)
  refine lv_aload_n x.1 x.2.1 dd_md_retry_39 rfl (lv_at hl 0 rfl) ?_
  refine mp_get x hH (la13 hL) fg_md_44 rfl dd_md_retry_40 ?_
  refine lv_iload_n x.1 x.2.1 dd_md_retry_43 rfl (lv_at hl 1 rfl) ?_
  refine lv_iload_n x.1 x.2.1 dd_md_retry_44 rfl (lv_at hl 2 rfl) ?_
  refine mp_call x (wt_mv base) hG hB hl.1 (mp_invS (av := [.int (nI a0), .int (nI b0)]) x mn_md_at mc_md_at (Or.inl ww_826) ww_827 ww_60 rfl dd_md_retry_45) (kk_M_at (a0 := a0) (b0 := b0)) (Nat.le_trans (Nat.le_of_ble_eq_true rfl) hfr) (Nat.le_trans (Nat.le_of_ble_eq_true rfl) hlo) (Nat.le_trans (Nat.le_of_ble_eq_true rfl) hce) (Nat.le_trans (Nat.le_of_ble_eq_true rfl) hsl) hH hS (fun v σa t0 H locs hp822 ht0 hvm hzz hH hS => ?_) (fun _ _ _ _ _ hz _ _ _ _ _ => by cases hz.1)
  obtain ⟨ho, hσ⟩ := hp822
  cases ho
  rw [hσ] at hH
  refine W.eq (g2 := F0 m 48 ls [.int (nI (20 * a0 + b0)), .ref (ad 14 11), .ref (ad 13 0)]) rfl ?_
  refine mn_top (w := nI a) (congrArg nI hA) ?_
  refine ka_ld x hH hL 11 (j := a) (by decide) (by decide) (show a < 500 from (by omega)) (by decide) dd_md_retry_48 ?_
  refine mn_top (w := M 11 a) (mu_k (by decide)) ?_
  refine lv_if_ne (tgt := 56) x.1 x.2.1 dd_md_retry_49 (by decide) (fun c823 => absurd hak c823) (fun c823 => ?_)
  refine lv_iconst (v := nI 1) x.1 x.2.1 dd_md_retry_52 (by decide +kernel) ?_
  refine lv_goto (tgt := 57) x.1 x.2.1 dd_md_retry_53 (by decide) ?_
  refine lv_iconst (v := nI 2) x.1 x.2.1 dd_md_retry_57 (by decide +kernel) ?_
  refine mp_call x (wt_mv base) hG hB hl.1 (mp_invV (av := [.int (nI 1), .int (nI 2)]) x hH (la13 hL) rfl rfl mn_md_fails mc_md_fails (Or.inl ww_814) ww_816 ww_41 rfl dd_md_retry_58) (kk_M_fails1 hL) (Nat.le_trans (Nat.le_of_ble_eq_true rfl) hfr) (Nat.le_trans (Nat.le_of_ble_eq_true rfl) hlo) (Nat.le_trans (Nat.le_of_ble_eq_true rfl) hce) (Nat.le_trans (Nat.le_of_ble_eq_true rfl) hsl) hH hS (fun v σa t0 H locs hp824 ht0 hvm hzz hH hS => ?_) (fun _ _ _ _ _ hz _ _ _ _ _ => by cases hz.1)
  obtain ⟨ho, hL⟩ := hp824
  cases ho
  refine W.eq (g2 := F0 m 61 ls [.int (nI 1)]) rfl ?_
  refine lv_if_eq (tgt := 66) x.1 x.2.1 dd_md_retry_61 (by decide) (fun c825 => absurd c825 (by decide +kernel)) (fun c825 => ?_)
  refine lv_iconst (v := nI 0) x.1 x.2.1 dd_md_retry_64 (by decide +kernel) ?_
  exact mp_ri x hr hlk (by decide) (by decide) hH hS (fun _ => ⟨rfl, hL⟩) dd_md_retry_65
set_option maxRecDepth 100000 in
set_option maxHeartbeats 4000000 in
theorem kk_MX_deliver_0 {l : Launch} {D : va_G} {ar : Nat → ClassId} {base : Nat} {σ : mp_M} {ad : Nat → Nat → Nat} {rg : Nat → Bool} {pl : Nat → Nat} {V M : fV} {i a0 b0 a n dc n2 kd : Nat} (hL : Lay ar ad rg pl V M σ) (hA : 20 * a0 + b0 = a) (ha : a0 < 25) (hb : b0 < 20) (hn : M 22 0 = nI n) (hn2 : n ≤ 100) (hdc : M 3 a = nI dc) (hdl : dc ≤ 12) (hi : i < n) (hl0 : M 21 (34 * i + 0) = nI kd) (hk1 : 1 ≤ kd) (hk2 : kd < 7) (hl2 : M 21 (34 * i + 2) = nI a0) (hl3 : M 21 (34 * i + 3) = nI b0) (hl9 : M 21 (34 * i + 9) = nI n2) (hn12 : n2 ≤ 12) (h12 : kd = 4 → ¬ mla (mtk (mu M 27 0 (nI 0)) i n) a dc (n2 - dc) 11 a = 0 → mx dc n2 < 12) : CN l D ar base yy_md_deliver prog_9_method_22_code 2 (Option.some Jvm.ClassFile.FieldType.int) [] 5 90 0 0 [.ref (ad 13 0), .int (nI i)] σ (fun o σ' _ => o = .returned (some (.int (mho (mu M 27 0 (nI 0)) i n a dc n2 kd a0 b0 26 0 - (mu M 27 0 (nI 0)) 26 0))) ∧ Lay ar ad rg pl V (mho (mu M 27 0 (nI 0)) i n a dc n2 kd a0 b0) σ') := by
  refine mp_in (Nat.le_of_ble_eq_true rfl) ?_
  intro p e R s m below meth c x hfr hlo hce hsl hr hlk hin hex hG hB ls H hH0 hH hS hl
  have hl : lv_has ls 2 [(0, .ref (ad 13 0)), (1, .int (nI i))] := hl
  refine lv_aload_n x.1 x.2.1 dd_md_deliver_0 rfl (lv_at hl 0 rfl) ?_
  refine lv_iload_n x.1 x.2.1 dd_md_deliver_1 rfl (lv_at hl 1 rfl) ?_
  refine lv_aload_n x.1 x.2.1 dd_md_deliver_2 rfl (lv_at hl 0 rfl) ?_
  refine mp_get x hH (la13 hL) fg_md_99 rfl dd_md_deliver_3 ?_
  refine mn_top (w := nI n) (hn) ?_
  refine mp_call x (wt_mv base) hG hB hl.1 (mp_invS (av := [.int (nI i), .int (nI n)]) x mn_md_within mc_md_within (Or.inl ww_811) ww_812 ww_60 rfl dd_md_deliver_6) (kk_M_within_ok (in_ok (by omega) (by omega))) (Nat.le_trans (Nat.le_of_ble_eq_true rfl) hfr) (Nat.le_trans (Nat.le_of_ble_eq_true rfl) hlo) (Nat.le_trans (Nat.le_of_ble_eq_true rfl) hce) (Nat.le_trans (Nat.le_of_ble_eq_true rfl) hsl) hH hS (fun v σa t0 H locs hp826 ht0 hvm hzz hH hS => ?_) (fun _ _ _ _ _ hz _ _ _ _ _ => by cases hz.1)
  obtain ⟨ho, hσ⟩ := hp826
  cases ho
  rw [hσ] at hH
  refine W.eq (g2 := F0 m 9 ls [.int (nI 1), .ref (ad 13 0)]) rfl ?_
  refine lv_if_ne (tgt := 16) x.1 x.2.1 dd_md_deliver_9 (by decide) (fun c827 => ?_) (fun c827 => absurd c827 (by decide +kernel))
  refine lv_iconst (v := nI 0) x.1 x.2.1 dd_md_deliver_16 (by decide +kernel) ?_
  refine lv_iconst (v := nI 1) x.1 x.2.1 dd_md_deliver_17 (by decide +kernel) ?_
  refine mp_call x (wt_mv base) hG hB hl.1 (mp_invV (av := [.int (nI 0), .int (nI 1)]) x hH (la13 hL) rfl rfl mn_md_fails mc_md_fails (Or.inl ww_814) ww_816 ww_41 rfl dd_md_deliver_18) (kk_M_fails0 hL) (Nat.le_trans (Nat.le_of_ble_eq_true rfl) hfr) (Nat.le_trans (Nat.le_of_ble_eq_true rfl) hlo) (Nat.le_trans (Nat.le_of_ble_eq_true rfl) hce) (Nat.le_trans (Nat.le_of_ble_eq_true rfl) hsl) hH hS (fun v σa t0 H locs hp828 ht0 hvm hzz hH hS => ?_) (fun _ _ _ _ _ hz _ _ _ _ _ => by cases hz.1)
  obtain ⟨ho, hL⟩ := hp828
  cases ho
  refine W.eq (g2 := F0 m 21 ls [.int (nI 0)]) rfl ?_
  refine lv_if_eq (tgt := 26) x.1 x.2.1 dd_md_deliver_21 (by decide) (fun c829 => ?_) (fun c829 => absurd (by decide +kernel) c829)
  refine lv_aload_n x.1 x.2.1 dd_md_deliver_26 rfl (lv_at hl 0 rfl) ?_
  refine lv_iload_n x.1 x.2.1 dd_md_deliver_27 rfl (lv_at hl 1 rfl) ?_
  refine mp_call x (wt_mv base) hG hB hl.1 (mp_invV (av := [.int (nI i)]) x hH (la13 hL) rfl rfl mn_md_handOver mc_md_handOver (Or.inl ww_849) ww_851 ww_45 rfl dd_md_deliver_28) (kk_M_handOver (a := a) (n := n) (dc := dc) (n2 := n2) (kd := kd) hL hA ha hb ((mu_k (by decide)).trans (hn)) hn2 ((mu_k (by decide)).trans (hdc)) hdl (by omega) ((mu_k (by decide)).trans hl0) hk1 hk2 ((mu_k (by decide)).trans hl2) ((mu_k (by decide)).trans hl3) ((mu_k (by decide)).trans hl9) hn12 h12) (Nat.le_trans (Nat.le_of_ble_eq_true rfl) hfr) (Nat.le_trans (Nat.le_of_ble_eq_true rfl) hlo) (Nat.le_trans (Nat.le_of_ble_eq_true rfl) hce) (Nat.le_trans (Nat.le_of_ble_eq_true rfl) hsl) hH hS (fun v σa t0 H locs hp830 ht0 hvm hzz hH hS => ?_) (fun _ _ _ _ _ hz _ _ _ _ _ => by cases hz.1)
  obtain ⟨ho, hL⟩ := hp830
  cases ho
  refine W.eq (g2 := F0 m 31 ls [.int (mho (mu M 27 0 (nI 0)) i n a dc n2 kd a0 b0 26 0 - (mu M 27 0 (nI 0)) 26 0)]) rfl ?_
  exact mp_ri x hr hlk (by decide) (by decide) hH hS (fun _ => ⟨rfl, hL⟩) dd_md_deliver_31
set_option maxRecDepth 100000 in
set_option maxHeartbeats 4000000 in
theorem kk_MX_drop_0 {l : Launch} {D : va_G} {ar : Nat → ClassId} {base : Nat} {σ : mp_M} {ad : Nat → Nat → Nat} {rg : Nat → Bool} {pl : Nat → Nat} {V M : fV} {i n : Nat} (hL : Lay ar ad rg pl V M σ) (hn : M 22 0 = nI n) (hn2 : n ≤ 100) (hi : i < n) : CN l D ar base yy_md_drop prog_9_method_23_code 2 (Option.some Jvm.ClassFile.FieldType.int) [] 1 14 0 0 [.ref (ad 13 0), .int (nI i)] σ (fun o σ' _ => o = .returned (some (.int (mtk (mu M 27 0 (nI 0)) i n 23 0))) ∧ Lay ar ad rg pl V (mtk (mu M 27 0 (nI 0)) i n) σ') := by
  refine mp_in (Nat.le_of_ble_eq_true rfl) ?_
  intro p e R s m below meth c x hfr hlo hce hsl hr hlk hin hex hG hB ls H hH0 hH hS hl
  have hl : lv_has ls 2 [(0, .ref (ad 13 0)), (1, .int (nI i))] := hl
  refine lv_aload_n x.1 x.2.1 dd_md_drop_0 rfl (lv_at hl 0 rfl) ?_
  refine lv_iload_n x.1 x.2.1 dd_md_drop_1 rfl (lv_at hl 1 rfl) ?_
  refine lv_aload_n x.1 x.2.1 dd_md_drop_2 rfl (lv_at hl 0 rfl) ?_
  refine mp_get x hH (la13 hL) fg_md_99 rfl dd_md_drop_3 ?_
  refine mn_top (w := nI n) (hn) ?_
  refine mp_call x (wt_mv base) hG hB hl.1 (mp_invS (av := [.int (nI i), .int (nI n)]) x mn_md_within mc_md_within (Or.inl ww_811) ww_812 ww_60 rfl dd_md_drop_6) (kk_M_within_ok (in_ok (by omega) (by omega))) (Nat.le_trans (Nat.le_of_ble_eq_true rfl) hfr) (Nat.le_trans (Nat.le_of_ble_eq_true rfl) hlo) (Nat.le_trans (Nat.le_of_ble_eq_true rfl) hce) (Nat.le_trans (Nat.le_of_ble_eq_true rfl) hsl) hH hS (fun v σa t0 H locs hp831 ht0 hvm hzz hH hS => ?_) (fun _ _ _ _ _ hz _ _ _ _ _ => by cases hz.1)
  obtain ⟨ho, hσ⟩ := hp831
  cases ho
  rw [hσ] at hH
  refine W.eq (g2 := F0 m 9 ls [.int (nI 1), .ref (ad 13 0)]) rfl ?_
  refine lv_if_ne (tgt := 16) x.1 x.2.1 dd_md_drop_9 (by decide) (fun c832 => ?_) (fun c832 => absurd c832 (by decide +kernel))
  refine lv_iconst (v := nI 0) x.1 x.2.1 dd_md_drop_16 (by decide +kernel) ?_
  refine lv_iconst (v := nI 1) x.1 x.2.1 dd_md_drop_17 (by decide +kernel) ?_
  refine mp_call x (wt_mv base) hG hB hl.1 (mp_invV (av := [.int (nI 0), .int (nI 1)]) x hH (la13 hL) rfl rfl mn_md_fails mc_md_fails (Or.inl ww_814) ww_816 ww_41 rfl dd_md_drop_18) (kk_M_fails0 hL) (Nat.le_trans (Nat.le_of_ble_eq_true rfl) hfr) (Nat.le_trans (Nat.le_of_ble_eq_true rfl) hlo) (Nat.le_trans (Nat.le_of_ble_eq_true rfl) hce) (Nat.le_trans (Nat.le_of_ble_eq_true rfl) hsl) hH hS (fun v σa t0 H locs hp833 ht0 hvm hzz hH hS => ?_) (fun _ _ _ _ _ hz _ _ _ _ _ => by cases hz.1)
  obtain ⟨ho, hL⟩ := hp833
  cases ho
  refine W.eq (g2 := F0 m 21 ls [.int (nI 0)]) rfl ?_
  refine lv_if_eq (tgt := 26) x.1 x.2.1 dd_md_drop_21 (by decide) (fun c834 => ?_) (fun c834 => absurd (by decide +kernel) c834)
  refine lv_aload_n x.1 x.2.1 dd_md_drop_26 rfl (lv_at hl 0 rfl) ?_
  refine lv_iload_n x.1 x.2.1 dd_md_drop_27 rfl (lv_at hl 1 rfl) ?_
  refine mp_call x (wt_mv base) hG hB hl.1 (mp_invV (av := [.int (nI i)]) x hH (la13 hL) rfl rfl mn_md_take mc_md_take (Or.inl ww_853) ww_855 ww_46 rfl dd_md_drop_28) (kk_M_take (i := i) (n := n) hL ((mu_k (by decide)).trans (hn)) (by omega) (by omega)) (Nat.le_trans (Nat.le_of_ble_eq_true rfl) hfr) (Nat.le_trans (Nat.le_of_ble_eq_true rfl) hlo) (Nat.le_trans (Nat.le_of_ble_eq_true rfl) hce) (Nat.le_trans (Nat.le_of_ble_eq_true rfl) hsl) hH hS (fun v σa t0 H locs hp835 ht0 hvm hzz hH hS => ?_) (fun _ _ _ _ _ hz _ _ _ _ _ => by cases hz.1)
  obtain ⟨ho, hL⟩ := hp835
  cases ho
  refine W.eq (g2 := F0 m 31 ls []) rfl ?_
  refine lv_aload_n x.1 x.2.1 dd_md_drop_31 rfl (lv_at hl 0 rfl) ?_
  refine mp_get x hH (la13 hL) fg_md_77 rfl dd_md_drop_32 ?_
  refine lv_iconst (v := nI 0) x.1 x.2.1 dd_md_drop_35 (by decide +kernel) ?_
  refine ka_ld x hH hL 23 (j := 0) (by decide) (by decide) (show 0 < 34 from (by omega)) (by decide) dd_md_drop_36 ?_
  exact mp_ri x hr hlk (by decide) (by decide) hH hS (fun _ => ⟨rfl, hL⟩) dd_md_drop_37
def ccp (M : fV) (i n : Nat) : Nat → fV
  | 0 => M
  | j + 1 => mu (ccp M i n j) 21 (34 * n + j) (M 21 (34 * i + j))
theorem ccp_o {M : fV} {i n j k q : Nat} (h : k ≠ 21) : ccp M i n j k q = M k q := by
  induction j with
  | zero => rfl
  | succ j ih => exact (mu_k h).trans ih
theorem ccp_lo {M : fV} {i n j q : Nat} (h : q < 34 * n) : ccp M i n j 21 q = M 21 q := by
  induction j with
  | zero => rfl
  | succ j ih => exact (mu_i (by omega)).trans ih
set_option maxRecDepth 100000 in
set_option maxHeartbeats 4000000 in
theorem kk_MX_copy_0 {l : Launch} {D : va_G} {ar : Nat → ClassId} {base : Nat} {σ : mp_M} {ad : Nat → Nat → Nat} {rg : Nat → Bool} {pl : Nat → Nat} {V M : fV} {i n : Nat} (hL : Lay ar ad rg pl V M σ) (hn : M 22 0 = nI n) (hn2 : n < 100) (hi : i < n) : CN l D ar base yy_md_copy prog_9_method_24_code 3 (Option.some Jvm.ClassFile.FieldType.boolean) [] 1 14 0 0 [.ref (ad 13 0), .int (nI i)] σ (fun o σ' _ => o = .returned (some (.int (nI 1))) ∧ Lay ar ad rg pl V (mu (ccp (mu M 27 0 (nI 0)) i n 34) 22 0 (nI (n + 1))) σ') := by
  refine mp_in (Nat.le_of_ble_eq_true rfl) ?_
  intro p e R s m below meth c x hfr hlo hce hsl hr hlk hin hex hG hB ls H hH0 hH hS hl
  have hl : lv_has ls 3 [(0, .ref (ad 13 0)), (1, .int (nI i))] := hl
  refine lv_aload_n x.1 x.2.1 dd_md_copy_0 rfl (lv_at hl 0 rfl) ?_
  refine lv_iload_n x.1 x.2.1 dd_md_copy_1 rfl (lv_at hl 1 rfl) ?_
  refine lv_aload_n x.1 x.2.1 dd_md_copy_2 rfl (lv_at hl 0 rfl) ?_
  refine mp_get x hH (la13 hL) fg_md_99 rfl dd_md_copy_3 ?_
  refine mn_top (w := nI n) (hn) ?_
  refine mp_call x (wt_mv base) hG hB hl.1 (mp_invS (av := [.int (nI i), .int (nI n)]) x mn_md_within mc_md_within (Or.inl ww_811) ww_812 ww_60 rfl dd_md_copy_6) (kk_M_within_ok (in_ok (by omega) (by omega))) (Nat.le_trans (Nat.le_of_ble_eq_true rfl) hfr) (Nat.le_trans (Nat.le_of_ble_eq_true rfl) hlo) (Nat.le_trans (Nat.le_of_ble_eq_true rfl) hce) (Nat.le_trans (Nat.le_of_ble_eq_true rfl) hsl) hH hS (fun v σa t0 H locs hp836 ht0 hvm hzz hH hS => ?_) (fun _ _ _ _ _ hz _ _ _ _ _ => by cases hz.1)
  obtain ⟨ho, hσ⟩ := hp836
  cases ho
  rw [hσ] at hH
  refine W.eq (g2 := F0 m 9 ls [.int (nI 1), .ref (ad 13 0)]) rfl ?_
  refine lv_if_ne (tgt := 16) x.1 x.2.1 dd_md_copy_9 (by decide) (fun c837 => ?_) (fun c837 => absurd c837 (by decide +kernel))
  refine lv_iconst (v := nI 0) x.1 x.2.1 dd_md_copy_16 (by decide +kernel) ?_
  refine lv_iconst (v := nI 1) x.1 x.2.1 dd_md_copy_17 (by decide +kernel) ?_
  refine mp_call x (wt_mv base) hG hB hl.1 (mp_invV (av := [.int (nI 0), .int (nI 1)]) x hH (la13 hL) rfl rfl mn_md_fails mc_md_fails (Or.inl ww_814) ww_816 ww_41 rfl dd_md_copy_18) (kk_M_fails0 hL) (Nat.le_trans (Nat.le_of_ble_eq_true rfl) hfr) (Nat.le_trans (Nat.le_of_ble_eq_true rfl) hlo) (Nat.le_trans (Nat.le_of_ble_eq_true rfl) hce) (Nat.le_trans (Nat.le_of_ble_eq_true rfl) hsl) hH hS (fun v σa t0 H locs hp838 ht0 hvm hzz hH hS => ?_) (fun _ _ _ _ _ hz _ _ _ _ _ => by cases hz.1)
  obtain ⟨ho, hL⟩ := hp838
  cases ho
  refine W.eq (g2 := F0 m 21 ls [.int (nI 0)]) rfl ?_
  refine lv_if_ne (tgt := 33) x.1 x.2.1 dd_md_copy_21 (by decide) (fun c839 => absurd (by decide +kernel) c839) (fun c839 => ?_)
  refine lv_aload_n x.1 x.2.1 dd_md_copy_24 rfl (lv_at hl 0 rfl) ?_
  refine mp_get x hH (la13 hL) fg_md_99 rfl dd_md_copy_25 ?_
  refine mn_top (w := nI n) ((mu_k (by decide)).trans (hn)) ?_
  refine lv_bipush (v := nI 100) x.1 x.2.1 dd_md_copy_28 (by decide +kernel) ?_
  refine lv_icmp_ne (tgt := 35) x.1 x.2.1 dd_md_copy_30 (by decide) (fun c840 => ?_) (fun c840 => absurd c840 (fun h => absurd ((cv_eq (a := n) (b := 100) (by omega) (by omega)).mp h) (by omega)))
  refine lv_iconst (v := nI 0) x.1 x.2.1 dd_md_copy_35 (by decide +kernel) ?_
  refine lv_istore_n (lv' := [(2, .int (nI 0)), (0, .ref (ad 13 0)), (1, .int (nI i))]) x.1 x.2.1 dd_md_copy_36 rfl hl (by decide) rfl (fun ls hl => ?_)
  have loop841 : ∀ (n842 : Nat) (j : Nat) (σ : mp_M), j ≤ 34 → Lay ar ad rg pl V (ccp (mu M 27 0 (nI 0)) i n j) σ → 34 - j < n842 → ∀ (ls : Array Slot) (H : Heap) (locs : List Loc), lv_has ls 3 [(0, .ref (ad 13 0)), (1, .int (nI i)), (2, .int (nI j))] → HH D base σ H → va_S (mp_A base) s.heap H locs → W p l e R s m [.ref (ad 13 0), .int (nI i)].toArray below meth c H locs 0 0 (mp_Q below s 0 0 base (mp_P D cl_L base s (fun o σ' _ => o = .returned (some (.int (nI 1))) ∧ Lay ar ad rg pl V (mu (ccp (mu M 27 0 (nI 0)) i n 34) 22 0 (nI (n + 1))) σ'))) (F0 m 37 ls []) := by
    intro n842
    induction n842 with
    | zero => intro j σ hj hL hmz; exact absurd hmz (Nat.not_lt_zero _)
    | succ n842 ihloop841 =>
      intro j σ hj hL hmz ls H locs hl hH hS
      refine lv_iload_n x.1 x.2.1 dd_md_copy_37 rfl (lv_at hl 2 rfl) ?_
      refine lv_bipush (v := nI 34) x.1 x.2.1 dd_md_copy_38 (by decide +kernel) ?_
      refine lv_icmp_ge (tgt := 74) x.1 x.2.1 dd_md_copy_40 (by decide) (fun c843 => ?_) (fun c843 => ?_)
      · have c843 : 34 ≤ j := (cv_le (a := 34) (b := j) (by omega) (by omega)).mp c843
        refine lv_aload_n x.1 x.2.1 dd_md_copy_74 rfl (lv_at hl 0 rfl) ?_
        refine lv_dup x.1 x.2.1 dd_md_copy_75 rfl ?_
        refine mp_get x hH (la13 hL) fg_md_99 rfl dd_md_copy_76 ?_
        refine mn_top (w := nI n) ((ccp_o (by decide)).trans ((mu_k (by decide)).trans hn)) ?_
        refine lv_iconst (v := nI 1) x.1 x.2.1 dd_md_copy_79 (by decide +kernel) ?_
        refine lv_iadd x.1 x.2.1 dd_md_copy_80 ?_
        refine mn_top (w := nI (n + 1)) (nI_add _ _) ?_
        refine kp_22 x hH hS hL fp_md_99 dd_md_copy_81 (fun σ hL H locs hH hS => ?_)
        refine lv_iconst (v := nI 1) x.1 x.2.1 dd_md_copy_84 (by decide +kernel) ?_
        obtain rfl : j = 34 := by omega
        exact mp_rz x hr (by decide) hlk (by decide) (by decide) hH hS (fun _ => ⟨rfl, hL⟩) dd_md_copy_85
      · have c843 : ¬ (34 ≤ j) := fun h => c843 ((cv_le (a := 34) (b := j) (by omega) (by omega)).mpr h)
        refine lv_aload_n x.1 x.2.1 dd_md_copy_43 rfl (lv_at hl 0 rfl) ?_
        refine mp_get x hH (la13 hL) fg_md_74 rfl dd_md_copy_44 ?_
        refine lv_bipush (v := nI 34) x.1 x.2.1 dd_md_copy_47 (by decide +kernel) ?_
        refine lv_aload_n x.1 x.2.1 dd_md_copy_49 rfl (lv_at hl 0 rfl) ?_
        refine mp_get x hH (la13 hL) fg_md_99 rfl dd_md_copy_50 ?_
        refine mn_top (w := nI n) ((ccp_o (by decide)).trans ((mu_k (by decide)).trans hn)) ?_
        refine lv_imul x.1 x.2.1 dd_md_copy_53 ?_
        refine mn_top (w := nI (34 * n)) (pk_mul _ _) ?_
        refine lv_iload_n x.1 x.2.1 dd_md_copy_54 rfl (lv_at hl 2 rfl) ?_
        refine lv_iadd x.1 x.2.1 dd_md_copy_55 ?_
        refine mn_top (w := nI (34 * n + j)) (nI_add _ _) ?_
        refine lv_aload_n x.1 x.2.1 dd_md_copy_56 rfl (lv_at hl 0 rfl) ?_
        refine mp_get x hH (la13 hL) fg_md_74 rfl dd_md_copy_57 ?_
        refine lv_bipush (v := nI 34) x.1 x.2.1 dd_md_copy_60 (by decide +kernel) ?_
        refine lv_iload_n x.1 x.2.1 dd_md_copy_62 rfl (lv_at hl 1 rfl) ?_
        refine lv_imul x.1 x.2.1 dd_md_copy_63 ?_
        refine mn_top (w := nI (34 * i)) (pk_mul _ _) ?_
        refine lv_iload_n x.1 x.2.1 dd_md_copy_64 rfl (lv_at hl 2 rfl) ?_
        refine lv_iadd x.1 x.2.1 dd_md_copy_65 ?_
        refine mn_top (w := nI (34 * i + j)) (nI_add _ _) ?_
        refine ka_ld x hH hL 21 (j := 34 * i + j) (by decide) (by decide) (show 34 * i + j < 3400 from (by omega)) (by decide) dd_md_copy_66 ?_
        refine mn_top (w := (mu M 27 0 (nI 0)) 21 (34 * i + j)) (ccp_lo (by omega)) ?_
        refine ka_st x hH hS hL 21 (j := 34 * n + j) (by decide) (by decide) (show 34 * n + j < 3400 from (by omega)) (by decide) dd_md_copy_67 (fun σ hL H locs hH hS => ?_)
        refine lv_iinc (v := nI (j + 1)) (lv' := [(2, .int (nI (j + 1))), (0, .ref (ad 13 0)), (1, .int (nI i))]) x.1 x.2.1 dd_md_copy_68 hl (k := 2) rfl (mn_inc _) (by decide) rfl (fun ls hl => ?_)
        refine lv_goto (tgt := 37) x.1 x.2.1 dd_md_copy_71 (by decide) ?_
        exact ihloop841 (j + 1) _ (by omega) hL (by omega) ls H _ (lv_sub hl [1, 2, 0] rfl) hH hS
  exact loop841 _ 0 _ (by decide) hL (Nat.lt_succ_self _) ls H _ (lv_sub hl [1, 2, 0] rfl) hH hS
set_option maxRecDepth 100000 in
set_option maxHeartbeats 4000000 in
theorem kk_MX_copy_f {l : Launch} {D : va_G} {ar : Nat → ClassId} {base : Nat} {σ : mp_M} {ad : Nat → Nat → Nat} {rg : Nat → Bool} {pl : Nat → Nat} {V M : fV} {i : Nat} (hL : Lay ar ad rg pl V M σ) (hn : M 22 0 = nI 100) (hi : i < 100) : CN l D ar base yy_md_copy prog_9_method_24_code 3 (Option.some Jvm.ClassFile.FieldType.boolean) [] 1 14 0 0 [.ref (ad 13 0), .int (nI i)] σ (fun o σ' _ => o = .returned (some (.int (nI 0))) ∧ Lay ar ad rg pl V (mu M 27 0 (nI 0)) σ') := by
  refine mp_in (Nat.le_of_ble_eq_true rfl) ?_
  intro p e R s m below meth c x hfr hlo hce hsl hr hlk hin hex hG hB ls H hH0 hH hS hl
  have hl : lv_has ls 3 [(0, .ref (ad 13 0)), (1, .int (nI i))] := hl
  refine lv_aload_n x.1 x.2.1 dd_md_copy_0 rfl (lv_at hl 0 rfl) ?_
  refine lv_iload_n x.1 x.2.1 dd_md_copy_1 rfl (lv_at hl 1 rfl) ?_
  refine lv_aload_n x.1 x.2.1 dd_md_copy_2 rfl (lv_at hl 0 rfl) ?_
  refine mp_get x hH (la13 hL) fg_md_99 rfl dd_md_copy_3 ?_
  refine mn_top (w := nI 100) (hn) ?_
  refine mp_call x (wt_mv base) hG hB hl.1 (mp_invS (av := [.int (nI i), .int (nI 100)]) x mn_md_within mc_md_within (Or.inl ww_811) ww_812 ww_60 rfl dd_md_copy_6) (kk_M_within_ok (in_ok (by omega) (by omega))) (Nat.le_trans (Nat.le_of_ble_eq_true rfl) hfr) (Nat.le_trans (Nat.le_of_ble_eq_true rfl) hlo) (Nat.le_trans (Nat.le_of_ble_eq_true rfl) hce) (Nat.le_trans (Nat.le_of_ble_eq_true rfl) hsl) hH hS (fun v σa t0 H locs hp849 ht0 hvm hzz hH hS => ?_) (fun _ _ _ _ _ hz _ _ _ _ _ => by cases hz.1)
  obtain ⟨ho, hσ⟩ := hp849
  cases ho
  rw [hσ] at hH
  refine W.eq (g2 := F0 m 9 ls [.int (nI 1), .ref (ad 13 0)]) rfl ?_
  refine lv_if_ne (tgt := 16) x.1 x.2.1 dd_md_copy_9 (by decide) (fun c850 => ?_) (fun c850 => absurd c850 (by decide +kernel))
  refine lv_iconst (v := nI 0) x.1 x.2.1 dd_md_copy_16 (by decide +kernel) ?_
  refine lv_iconst (v := nI 1) x.1 x.2.1 dd_md_copy_17 (by decide +kernel) ?_
  refine mp_call x (wt_mv base) hG hB hl.1 (mp_invV (av := [.int (nI 0), .int (nI 1)]) x hH (la13 hL) rfl rfl mn_md_fails mc_md_fails (Or.inl ww_814) ww_816 ww_41 rfl dd_md_copy_18) (kk_M_fails0 hL) (Nat.le_trans (Nat.le_of_ble_eq_true rfl) hfr) (Nat.le_trans (Nat.le_of_ble_eq_true rfl) hlo) (Nat.le_trans (Nat.le_of_ble_eq_true rfl) hce) (Nat.le_trans (Nat.le_of_ble_eq_true rfl) hsl) hH hS (fun v σa t0 H locs hp851 ht0 hvm hzz hH hS => ?_) (fun _ _ _ _ _ hz _ _ _ _ _ => by cases hz.1)
  obtain ⟨ho, hL⟩ := hp851
  cases ho
  refine W.eq (g2 := F0 m 21 ls [.int (nI 0)]) rfl ?_
  refine lv_if_ne (tgt := 33) x.1 x.2.1 dd_md_copy_21 (by decide) (fun c852 => absurd (by decide +kernel) c852) (fun c852 => ?_)
  refine lv_aload_n x.1 x.2.1 dd_md_copy_24 rfl (lv_at hl 0 rfl) ?_
  refine mp_get x hH (la13 hL) fg_md_99 rfl dd_md_copy_25 ?_
  refine mn_top (w := nI 100) ((mu_k (by decide)).trans (hn)) ?_
  refine lv_bipush (v := nI 100) x.1 x.2.1 dd_md_copy_28 (by decide +kernel) ?_
  refine lv_icmp_ne (tgt := 35) x.1 x.2.1 dd_md_copy_30 (by decide) (fun c853 => absurd (by decide +kernel) c853) (fun c853 => ?_)
  refine lv_iconst (v := nI 0) x.1 x.2.1 dd_md_copy_33 (by decide +kernel) ?_
  exact mp_rz x hr (by decide) hlk (by decide) (by decide) hH hS (fun _ => ⟨rfl, hL⟩) dd_md_copy_34
def mea (M : fV) (a0 : Nat) : Nat → fV
  | 0 => M
  | j + 1 => mse (mea M a0 j) (20 * a0 + j)
set_option maxRecDepth 100000 in
set_option maxHeartbeats 4000000 in
theorem kk_MX_up_00 {l : Launch} {D : va_G} {ar : Nat → ClassId} {base : Nat} {σ : mp_M} {ad : Nat → Nat → Nat} {rg : Nat → Bool} {pl : Nat → Nat} {V M : fV} {a0 : Nat} (hL : Lay ar ad rg pl V M σ) (ha : a0 < 25) (hdn : M 2 a0 = nI 0) : CN l D ar base yy_md_up prog_9_method_26_code 5 (Option.some Jvm.ClassFile.FieldType.boolean) [] 2 26 0 0 [.ref (ad 13 0), .int (nI a0), .int (nI 0)] σ (fun o σ' _ => o = .returned (some (.int (nI 1))) ∧ Lay ar ad rg pl V (mea (mu (mu M 27 0 (nI 0)) 2 a0 (nI 1)) a0 20) σ') := by
  refine mp_in (Nat.le_of_ble_eq_true rfl) ?_
  intro p e R s m below meth c x hfr hlo hce hsl hr hlk hin hex hG hB ls H hH0 hH hS hl
  have hl : lv_has ls 5 [(0, .ref (ad 13 0)), (1, .int (nI a0)), (2, .int (nI 0))] := hl
  refine lv_aload_n x.1 x.2.1 dd_md_up_0 rfl (lv_at hl 0 rfl) ?_
  refine lv_iload_n x.1 x.2.1 dd_md_up_1 rfl (lv_at hl 1 rfl) ?_
  refine mp_call x (wt_mv base) hG hB hl.1 (mp_invS (av := [.int (nI a0)]) x mn_md_isShop mc_md_isShop (Or.inl ww_822) ww_823 ww_60 rfl dd_md_up_2) (kk_M_isShop_ok (in_ok (by omega) (by decide))) (Nat.le_trans (Nat.le_of_ble_eq_true rfl) hfr) (Nat.le_trans (Nat.le_of_ble_eq_true rfl) hlo) (Nat.le_trans (Nat.le_of_ble_eq_true rfl) hce) (Nat.le_trans (Nat.le_of_ble_eq_true rfl) hsl) hH hS (fun v σa t0 H locs hp854 ht0 hvm hzz hH hS => ?_) (fun _ _ _ _ _ hz _ _ _ _ _ => by cases hz.1)
  obtain ⟨ho, hσ⟩ := hp854
  cases ho
  rw [hσ] at hH
  refine W.eq (g2 := F0 m 5 ls [.int (nI 1), .ref (ad 13 0)]) rfl ?_
  refine lv_if_ne (tgt := 12) x.1 x.2.1 dd_md_up_5 (by decide) (fun c855 => ?_) (fun c855 => absurd c855 (by decide +kernel))
  refine lv_iconst (v := nI 0) x.1 x.2.1 dd_md_up_12 (by decide +kernel) ?_
  refine lv_iconst (v := nI 1) x.1 x.2.1 dd_md_up_13 (by decide +kernel) ?_
  refine mp_call x (wt_mv base) hG hB hl.1 (mp_invV (av := [.int (nI 0), .int (nI 1)]) x hH (la13 hL) rfl rfl mn_md_fails mc_md_fails (Or.inl ww_814) ww_816 ww_41 rfl dd_md_up_14) (kk_M_fails0 hL) (Nat.le_trans (Nat.le_of_ble_eq_true rfl) hfr) (Nat.le_trans (Nat.le_of_ble_eq_true rfl) hlo) (Nat.le_trans (Nat.le_of_ble_eq_true rfl) hce) (Nat.le_trans (Nat.le_of_ble_eq_true rfl) hsl) hH hS (fun v σa t0 H locs hp856 ht0 hvm hzz hH hS => ?_) (fun _ _ _ _ _ hz _ _ _ _ _ => by cases hz.1)
  obtain ⟨ho, hL⟩ := hp856
  cases ho
  refine W.eq (g2 := F0 m 17 ls [.int (nI 0)]) rfl ?_
  refine lv_if_eq (tgt := 22) x.1 x.2.1 dd_md_up_17 (by decide) (fun c857 => ?_) (fun c857 => absurd (by decide +kernel) c857)
  refine lv_aload_n x.1 x.2.1 dd_md_up_22 rfl (lv_at hl 0 rfl) ?_
  refine mp_get x hH (la13 hL) fg_md_16 rfl dd_md_up_23 ?_
  refine lv_iload_n x.1 x.2.1 dd_md_up_26 rfl (lv_at hl 1 rfl) ?_
  refine kz_ld x hH hL (j := a0) (by omega) dd_md_up_27 ?_
  refine mn_top (w := nI 0) ((mu_k (by decide)).trans (hdn)) ?_
  refine lv_iload_n x.1 x.2.1 dd_md_up_28 rfl (lv_at hl 2 rfl) ?_
  refine lv_icmp_ne (tgt := 36) x.1 x.2.1 dd_md_up_29 (by decide) (fun c858 => absurd (by decide +kernel) c858) (fun c858 => ?_)
  refine lv_iconst (v := nI 1) x.1 x.2.1 dd_md_up_32 (by decide +kernel) ?_
  refine lv_goto (tgt := 37) x.1 x.2.1 dd_md_up_33 (by decide) ?_
  refine lv_istore_n (lv' := [(3, .int (nI 1)), (0, .ref (ad 13 0)), (1, .int (nI a0)), (2, .int (nI 0))]) x.1 x.2.1 dd_md_up_37 rfl hl (by decide) rfl (fun ls hl => ?_)
  refine lv_aload_n x.1 x.2.1 dd_md_up_38 rfl (lv_at hl 1 rfl) ?_
  refine mp_get x hH (la13 hL) fg_md_16 rfl dd_md_up_39 ?_
  refine lv_iload_n x.1 x.2.1 dd_md_up_42 rfl (lv_at hl 2 rfl) ?_
  refine lv_iload_n x.1 x.2.1 dd_md_up_43 rfl (lv_at hl 3 rfl) ?_
  refine lv_if_ne (tgt := 51) x.1 x.2.1 dd_md_up_44 (by decide) (fun c859 => absurd (by decide +kernel) c859) (fun c859 => ?_)
  refine lv_iconst (v := nI 1) x.1 x.2.1 dd_md_up_47 (by decide +kernel) ?_
  refine lv_goto (tgt := 52) x.1 x.2.1 dd_md_up_48 (by decide) ?_
  refine kz_st x hH hS hL (j := a0) (by decide +kernel) (by omega) dd_md_up_52 (fun σ hL H locs hH hS => ?_)
  refine lv_iconst (v := nI 0) x.1 x.2.1 dd_md_up_53 (by decide +kernel) ?_
  refine lv_istore (lv' := [(4, .int (nI 0)), (3, .int (nI 1)), (0, .ref (ad 13 0)), (1, .int (nI a0)), (2, .int (nI 0))]) x.1 x.2.1 dd_md_up_54 hl (by decide) rfl (fun ls hl => ?_)
  have loop860 : ∀ (n861 : Nat) (j : Nat) (σ : mp_M), j ≤ 20 → Lay ar ad rg pl V (mea (mu (mu M 27 0 (nI 0)) 2 a0 (nI 1)) a0 j) σ → 20 - j < n861 → ∀ (ls : Array Slot) (H : Heap) (locs : List Loc), lv_has ls 5 [(0, .ref (ad 13 0)), (1, .int (nI a0)), (2, .int (nI 0)), (3, .int (nI 1)), (4, .int (nI j))] → HH D base σ H → va_S (mp_A base) s.heap H locs → W p l e R s m [.ref (ad 13 0), .int (nI a0), .int (nI 0)].toArray below meth c H locs 0 0 (mp_Q below s 0 0 base (mp_P D cl_L base s (fun o σ' _ => o = .returned (some (.int (nI 1))) ∧ Lay ar ad rg pl V (mea (mu (mu M 27 0 (nI 0)) 2 a0 (nI 1)) a0 20) σ'))) (F0 m 56 ls []) := by
    intro n861
    induction n861 with
    | zero => intro j σ hj hL hmz; exact absurd hmz (Nat.not_lt_zero _)
    | succ n861 ihloop860 =>
      intro j σ hj hL hmz ls H locs hl hH hS
      refine lv_iload x.1 x.2.1 dd_md_up_56 (lv_at hl 4 rfl) ?_
      refine lv_bipush (v := nI 20) x.1 x.2.1 dd_md_up_58 (by decide +kernel) ?_
      refine lv_icmp_ge (tgt := 83) x.1 x.2.1 dd_md_up_60 (by decide) (fun c862 => ?_) (fun c862 => ?_)
      · have c862 : 20 ≤ j := (cv_le (a := 20) (b := j) (by omega) (by omega)).mp c862
        refine lv_iload_n x.1 x.2.1 dd_md_up_83 rfl (lv_at hl 3 rfl) ?_
        obtain rfl : j = 20 := by omega
        exact mp_rz x hr (by decide) hlk (by decide) (by decide) hH hS (fun _ => ⟨rfl, hL⟩) dd_md_up_84
      · have c862 : ¬ (20 ≤ j) := fun h => c862 ((cv_le (a := 20) (b := j) (by omega) (by omega)).mpr h)
        refine lv_iload_n x.1 x.2.1 dd_md_up_63 rfl (lv_at hl 2 rfl) ?_
        refine lv_if_ne (tgt := 83) x.1 x.2.1 dd_md_up_64 (by decide) (fun c863 => absurd (by decide +kernel) c863) (fun c863 => ?_)
        refine lv_aload_n x.1 x.2.1 dd_md_up_67 rfl (lv_at hl 0 rfl) ?_
        refine lv_iload_n x.1 x.2.1 dd_md_up_68 rfl (lv_at hl 1 rfl) ?_
        refine lv_iload x.1 x.2.1 dd_md_up_69 (lv_at hl 4 rfl) ?_
        refine mp_call x (wt_mv base) hG hB hl.1 (mp_invS (av := [.int (nI a0), .int (nI j)]) x mn_md_at mc_md_at (Or.inl ww_826) ww_827 ww_60 rfl dd_md_up_71) (kk_M_at (a0 := a0) (b0 := j)) (Nat.le_trans (Nat.le_of_ble_eq_true rfl) hfr) (Nat.le_trans (Nat.le_of_ble_eq_true rfl) hlo) (Nat.le_trans (Nat.le_of_ble_eq_true rfl) hce) (Nat.le_trans (Nat.le_of_ble_eq_true rfl) hsl) hH hS (fun v σa t0 H locs hp864 ht0 hvm hzz hH hS => ?_) (fun _ _ _ _ _ hz _ _ _ _ _ => by cases hz.1)
        obtain ⟨ho, hσ⟩ := hp864
        cases ho
        rw [hσ] at hH
        refine W.eq (g2 := F0 m 74 ls [.int (nI (20 * a0 + j)), .ref (ad 13 0)]) rfl ?_
        refine mp_call x (wt_mv base) hG hB hl.1 (mp_invV (av := [.int (nI (20 * a0 + j))]) x hH (la13 hL) rfl rfl mn_md_endAsking mc_md_endAsking (Or.inl ww_829) ww_831 ww_42 rfl dd_md_up_74) (kk_M_end (a := 20 * a0 + j) hL (by omega)) (Nat.le_trans (Nat.le_of_ble_eq_true rfl) hfr) (Nat.le_trans (Nat.le_of_ble_eq_true rfl) hlo) (Nat.le_trans (Nat.le_of_ble_eq_true rfl) hce) (Nat.le_trans (Nat.le_of_ble_eq_true rfl) hsl) hH hS (fun v σa t0 H locs hp865 ht0 hvm hzz hH hS => ?_) (fun _ _ _ _ _ hz _ _ _ _ _ => by cases hz.1)
        obtain ⟨ho, hL⟩ := hp865
        cases ho
        refine W.eq (g2 := F0 m 77 ls []) rfl ?_
        refine lv_iinc (v := nI (j + 1)) (lv' := [(4, .int (nI (j + 1))), (0, .ref (ad 13 0)), (1, .int (nI a0)), (2, .int (nI 0)), (3, .int (nI 1))]) x.1 x.2.1 dd_md_up_77 hl (k := 4) rfl (mn_inc _) (by decide) rfl (fun ls hl => ?_)
        refine lv_goto (tgt := 56) x.1 x.2.1 dd_md_up_80 (by decide) ?_
        exact ihloop860 (j + 1) _ (by omega) hL (by omega) ls H _ (lv_sub hl [1, 2, 3, 4, 0] rfl) hH hS
  exact loop860 _ 0 _ (by decide) hL (Nat.lt_succ_self _) ls H _ (lv_sub hl [2, 3, 4, 1, 0] rfl) hH hS
set_option maxRecDepth 100000 in
set_option maxHeartbeats 4000000 in
theorem kk_MX_up_01 {l : Launch} {D : va_G} {ar : Nat → ClassId} {base : Nat} {σ : mp_M} {ad : Nat → Nat → Nat} {rg : Nat → Bool} {pl : Nat → Nat} {V M : fV} {a0 : Nat} (hL : Lay ar ad rg pl V M σ) (ha : a0 < 25) (hdn : M 2 a0 = nI 0) : CN l D ar base yy_md_up prog_9_method_26_code 5 (Option.some Jvm.ClassFile.FieldType.boolean) [] 2 26 0 0 [.ref (ad 13 0), .int (nI a0), .int (nI 1)] σ (fun o σ' _ => o = .returned (some (.int (nI 0))) ∧ Lay ar ad rg pl V (mu (mu M 27 0 (nI 0)) 2 a0 (nI 0)) σ') := by
  refine mp_in (Nat.le_of_ble_eq_true rfl) ?_
  intro p e R s m below meth c x hfr hlo hce hsl hr hlk hin hex hG hB ls H hH0 hH hS hl
  have hl : lv_has ls 5 [(0, .ref (ad 13 0)), (1, .int (nI a0)), (2, .int (nI 1))] := hl
  refine lv_aload_n x.1 x.2.1 dd_md_up_0 rfl (lv_at hl 0 rfl) ?_
  refine lv_iload_n x.1 x.2.1 dd_md_up_1 rfl (lv_at hl 1 rfl) ?_
  refine mp_call x (wt_mv base) hG hB hl.1 (mp_invS (av := [.int (nI a0)]) x mn_md_isShop mc_md_isShop (Or.inl ww_822) ww_823 ww_60 rfl dd_md_up_2) (kk_M_isShop_ok (in_ok (by omega) (by decide))) (Nat.le_trans (Nat.le_of_ble_eq_true rfl) hfr) (Nat.le_trans (Nat.le_of_ble_eq_true rfl) hlo) (Nat.le_trans (Nat.le_of_ble_eq_true rfl) hce) (Nat.le_trans (Nat.le_of_ble_eq_true rfl) hsl) hH hS (fun v σa t0 H locs hp866 ht0 hvm hzz hH hS => ?_) (fun _ _ _ _ _ hz _ _ _ _ _ => by cases hz.1)
  obtain ⟨ho, hσ⟩ := hp866
  cases ho
  rw [hσ] at hH
  refine W.eq (g2 := F0 m 5 ls [.int (nI 1), .ref (ad 13 0)]) rfl ?_
  refine lv_if_ne (tgt := 12) x.1 x.2.1 dd_md_up_5 (by decide) (fun c867 => ?_) (fun c867 => absurd c867 (by decide +kernel))
  refine lv_iconst (v := nI 0) x.1 x.2.1 dd_md_up_12 (by decide +kernel) ?_
  refine lv_iconst (v := nI 1) x.1 x.2.1 dd_md_up_13 (by decide +kernel) ?_
  refine mp_call x (wt_mv base) hG hB hl.1 (mp_invV (av := [.int (nI 0), .int (nI 1)]) x hH (la13 hL) rfl rfl mn_md_fails mc_md_fails (Or.inl ww_814) ww_816 ww_41 rfl dd_md_up_14) (kk_M_fails0 hL) (Nat.le_trans (Nat.le_of_ble_eq_true rfl) hfr) (Nat.le_trans (Nat.le_of_ble_eq_true rfl) hlo) (Nat.le_trans (Nat.le_of_ble_eq_true rfl) hce) (Nat.le_trans (Nat.le_of_ble_eq_true rfl) hsl) hH hS (fun v σa t0 H locs hp868 ht0 hvm hzz hH hS => ?_) (fun _ _ _ _ _ hz _ _ _ _ _ => by cases hz.1)
  obtain ⟨ho, hL⟩ := hp868
  cases ho
  refine W.eq (g2 := F0 m 17 ls [.int (nI 0)]) rfl ?_
  refine lv_if_eq (tgt := 22) x.1 x.2.1 dd_md_up_17 (by decide) (fun c869 => ?_) (fun c869 => absurd (by decide +kernel) c869)
  refine lv_aload_n x.1 x.2.1 dd_md_up_22 rfl (lv_at hl 0 rfl) ?_
  refine mp_get x hH (la13 hL) fg_md_16 rfl dd_md_up_23 ?_
  refine lv_iload_n x.1 x.2.1 dd_md_up_26 rfl (lv_at hl 1 rfl) ?_
  refine kz_ld x hH hL (j := a0) (by omega) dd_md_up_27 ?_
  refine mn_top (w := nI 0) ((mu_k (by decide)).trans (hdn)) ?_
  refine lv_iload_n x.1 x.2.1 dd_md_up_28 rfl (lv_at hl 2 rfl) ?_
  refine lv_icmp_ne (tgt := 36) x.1 x.2.1 dd_md_up_29 (by decide) (fun c870 => ?_) (fun c870 => absurd c870 (by decide +kernel))
  refine lv_iconst (v := nI 0) x.1 x.2.1 dd_md_up_36 (by decide +kernel) ?_
  refine lv_istore_n (lv' := [(3, .int (nI 0)), (0, .ref (ad 13 0)), (1, .int (nI a0)), (2, .int (nI 1))]) x.1 x.2.1 dd_md_up_37 rfl hl (by decide) rfl (fun ls hl => ?_)
  refine lv_aload_n x.1 x.2.1 dd_md_up_38 rfl (lv_at hl 1 rfl) ?_
  refine mp_get x hH (la13 hL) fg_md_16 rfl dd_md_up_39 ?_
  refine lv_iload_n x.1 x.2.1 dd_md_up_42 rfl (lv_at hl 2 rfl) ?_
  refine lv_iload_n x.1 x.2.1 dd_md_up_43 rfl (lv_at hl 3 rfl) ?_
  refine lv_if_ne (tgt := 51) x.1 x.2.1 dd_md_up_44 (by decide) (fun c871 => ?_) (fun c871 => absurd c871 (by decide +kernel))
  refine lv_iconst (v := nI 0) x.1 x.2.1 dd_md_up_51 (by decide +kernel) ?_
  refine kz_st x hH hS hL (j := a0) (by decide +kernel) (by omega) dd_md_up_52 (fun σ hL H locs hH hS => ?_)
  refine lv_iconst (v := nI 0) x.1 x.2.1 dd_md_up_53 (by decide +kernel) ?_
  refine lv_istore (lv' := [(4, .int (nI 0)), (3, .int (nI 0)), (0, .ref (ad 13 0)), (1, .int (nI a0)), (2, .int (nI 1))]) x.1 x.2.1 dd_md_up_54 hl (by decide) rfl (fun ls hl => ?_)
  refine lv_iload x.1 x.2.1 dd_md_up_56 (lv_at hl 0 rfl) ?_
  refine lv_bipush (v := nI 20) x.1 x.2.1 dd_md_up_58 (by decide +kernel) ?_
  refine lv_icmp_ge (tgt := 83) x.1 x.2.1 dd_md_up_60 (by decide) (fun c872 => absurd c872 (by decide +kernel)) (fun c872 => ?_)
  refine lv_iload_n x.1 x.2.1 dd_md_up_63 rfl (lv_at hl 4 rfl) ?_
  refine lv_if_ne (tgt := 83) x.1 x.2.1 dd_md_up_64 (by decide) (fun c873 => ?_) (fun c873 => absurd c873 (by decide +kernel))
  refine lv_iload_n x.1 x.2.1 dd_md_up_83 rfl (lv_at hl 1 rfl) ?_
  exact mp_rz x hr (by decide) hlk (by decide) (by decide) hH hS (fun _ => ⟨rfl, hL⟩) dd_md_up_84
set_option maxRecDepth 100000 in
set_option maxHeartbeats 4000000 in
theorem kk_MX_up_10 {l : Launch} {D : va_G} {ar : Nat → ClassId} {base : Nat} {σ : mp_M} {ad : Nat → Nat → Nat} {rg : Nat → Bool} {pl : Nat → Nat} {V M : fV} {a0 : Nat} (hL : Lay ar ad rg pl V M σ) (ha : a0 < 25) (hdn : M 2 a0 = nI 1) : CN l D ar base yy_md_up prog_9_method_26_code 5 (Option.some Jvm.ClassFile.FieldType.boolean) [] 2 26 0 0 [.ref (ad 13 0), .int (nI a0), .int (nI 0)] σ (fun o σ' _ => o = .returned (some (.int (nI 0))) ∧ Lay ar ad rg pl V (mea (mu (mu M 27 0 (nI 0)) 2 a0 (nI 1)) a0 20) σ') := by
  refine mp_in (Nat.le_of_ble_eq_true rfl) ?_
  intro p e R s m below meth c x hfr hlo hce hsl hr hlk hin hex hG hB ls H hH0 hH hS hl
  have hl : lv_has ls 5 [(0, .ref (ad 13 0)), (1, .int (nI a0)), (2, .int (nI 0))] := hl
  refine lv_aload_n x.1 x.2.1 dd_md_up_0 rfl (lv_at hl 0 rfl) ?_
  refine lv_iload_n x.1 x.2.1 dd_md_up_1 rfl (lv_at hl 1 rfl) ?_
  refine mp_call x (wt_mv base) hG hB hl.1 (mp_invS (av := [.int (nI a0)]) x mn_md_isShop mc_md_isShop (Or.inl ww_822) ww_823 ww_60 rfl dd_md_up_2) (kk_M_isShop_ok (in_ok (by omega) (by decide))) (Nat.le_trans (Nat.le_of_ble_eq_true rfl) hfr) (Nat.le_trans (Nat.le_of_ble_eq_true rfl) hlo) (Nat.le_trans (Nat.le_of_ble_eq_true rfl) hce) (Nat.le_trans (Nat.le_of_ble_eq_true rfl) hsl) hH hS (fun v σa t0 H locs hp874 ht0 hvm hzz hH hS => ?_) (fun _ _ _ _ _ hz _ _ _ _ _ => by cases hz.1)
  obtain ⟨ho, hσ⟩ := hp874
  cases ho
  rw [hσ] at hH
  refine W.eq (g2 := F0 m 5 ls [.int (nI 1), .ref (ad 13 0)]) rfl ?_
  refine lv_if_ne (tgt := 12) x.1 x.2.1 dd_md_up_5 (by decide) (fun c875 => ?_) (fun c875 => absurd c875 (by decide +kernel))
  refine lv_iconst (v := nI 0) x.1 x.2.1 dd_md_up_12 (by decide +kernel) ?_
  refine lv_iconst (v := nI 1) x.1 x.2.1 dd_md_up_13 (by decide +kernel) ?_
  refine mp_call x (wt_mv base) hG hB hl.1 (mp_invV (av := [.int (nI 0), .int (nI 1)]) x hH (la13 hL) rfl rfl mn_md_fails mc_md_fails (Or.inl ww_814) ww_816 ww_41 rfl dd_md_up_14) (kk_M_fails0 hL) (Nat.le_trans (Nat.le_of_ble_eq_true rfl) hfr) (Nat.le_trans (Nat.le_of_ble_eq_true rfl) hlo) (Nat.le_trans (Nat.le_of_ble_eq_true rfl) hce) (Nat.le_trans (Nat.le_of_ble_eq_true rfl) hsl) hH hS (fun v σa t0 H locs hp876 ht0 hvm hzz hH hS => ?_) (fun _ _ _ _ _ hz _ _ _ _ _ => by cases hz.1)
  obtain ⟨ho, hL⟩ := hp876
  cases ho
  refine W.eq (g2 := F0 m 17 ls [.int (nI 0)]) rfl ?_
  refine lv_if_eq (tgt := 22) x.1 x.2.1 dd_md_up_17 (by decide) (fun c877 => ?_) (fun c877 => absurd (by decide +kernel) c877)
  refine lv_aload_n x.1 x.2.1 dd_md_up_22 rfl (lv_at hl 0 rfl) ?_
  refine mp_get x hH (la13 hL) fg_md_16 rfl dd_md_up_23 ?_
  refine lv_iload_n x.1 x.2.1 dd_md_up_26 rfl (lv_at hl 1 rfl) ?_
  refine kz_ld x hH hL (j := a0) (by omega) dd_md_up_27 ?_
  refine mn_top (w := nI 1) ((mu_k (by decide)).trans (hdn)) ?_
  refine lv_iload_n x.1 x.2.1 dd_md_up_28 rfl (lv_at hl 2 rfl) ?_
  refine lv_icmp_ne (tgt := 36) x.1 x.2.1 dd_md_up_29 (by decide) (fun c878 => ?_) (fun c878 => absurd c878 (by decide +kernel))
  refine lv_iconst (v := nI 0) x.1 x.2.1 dd_md_up_36 (by decide +kernel) ?_
  refine lv_istore_n (lv' := [(3, .int (nI 0)), (0, .ref (ad 13 0)), (1, .int (nI a0)), (2, .int (nI 0))]) x.1 x.2.1 dd_md_up_37 rfl hl (by decide) rfl (fun ls hl => ?_)
  refine lv_aload_n x.1 x.2.1 dd_md_up_38 rfl (lv_at hl 1 rfl) ?_
  refine mp_get x hH (la13 hL) fg_md_16 rfl dd_md_up_39 ?_
  refine lv_iload_n x.1 x.2.1 dd_md_up_42 rfl (lv_at hl 2 rfl) ?_
  refine lv_iload_n x.1 x.2.1 dd_md_up_43 rfl (lv_at hl 3 rfl) ?_
  refine lv_if_ne (tgt := 51) x.1 x.2.1 dd_md_up_44 (by decide) (fun c879 => absurd (by decide +kernel) c879) (fun c879 => ?_)
  refine lv_iconst (v := nI 1) x.1 x.2.1 dd_md_up_47 (by decide +kernel) ?_
  refine lv_goto (tgt := 52) x.1 x.2.1 dd_md_up_48 (by decide) ?_
  refine kz_st x hH hS hL (j := a0) (by decide +kernel) (by omega) dd_md_up_52 (fun σ hL H locs hH hS => ?_)
  refine lv_iconst (v := nI 0) x.1 x.2.1 dd_md_up_53 (by decide +kernel) ?_
  refine lv_istore (lv' := [(4, .int (nI 0)), (3, .int (nI 0)), (0, .ref (ad 13 0)), (1, .int (nI a0)), (2, .int (nI 0))]) x.1 x.2.1 dd_md_up_54 hl (by decide) rfl (fun ls hl => ?_)
  have loop880 : ∀ (n881 : Nat) (j : Nat) (σ : mp_M), j ≤ 20 → Lay ar ad rg pl V (mea (mu (mu M 27 0 (nI 0)) 2 a0 (nI 1)) a0 j) σ → 20 - j < n881 → ∀ (ls : Array Slot) (H : Heap) (locs : List Loc), lv_has ls 5 [(0, .ref (ad 13 0)), (1, .int (nI a0)), (2, .int (nI 0)), (3, .int (nI 0)), (4, .int (nI j))] → HH D base σ H → va_S (mp_A base) s.heap H locs → W p l e R s m [.ref (ad 13 0), .int (nI a0), .int (nI 0)].toArray below meth c H locs 0 0 (mp_Q below s 0 0 base (mp_P D cl_L base s (fun o σ' _ => o = .returned (some (.int (nI 0))) ∧ Lay ar ad rg pl V (mea (mu (mu M 27 0 (nI 0)) 2 a0 (nI 1)) a0 20) σ'))) (F0 m 56 ls []) := by
    intro n881
    induction n881 with
    | zero => intro j σ hj hL hmz; exact absurd hmz (Nat.not_lt_zero _)
    | succ n881 ihloop880 =>
      intro j σ hj hL hmz ls H locs hl hH hS
      refine lv_iload x.1 x.2.1 dd_md_up_56 (lv_at hl 4 rfl) ?_
      refine lv_bipush (v := nI 20) x.1 x.2.1 dd_md_up_58 (by decide +kernel) ?_
      refine lv_icmp_ge (tgt := 83) x.1 x.2.1 dd_md_up_60 (by decide) (fun c882 => ?_) (fun c882 => ?_)
      · have c882 : 20 ≤ j := (cv_le (a := 20) (b := j) (by omega) (by omega)).mp c882
        refine lv_iload_n x.1 x.2.1 dd_md_up_83 rfl (lv_at hl 3 rfl) ?_
        obtain rfl : j = 20 := by omega
        exact mp_rz x hr (by decide) hlk (by decide) (by decide) hH hS (fun _ => ⟨rfl, hL⟩) dd_md_up_84
      · have c882 : ¬ (20 ≤ j) := fun h => c882 ((cv_le (a := 20) (b := j) (by omega) (by omega)).mpr h)
        refine lv_iload_n x.1 x.2.1 dd_md_up_63 rfl (lv_at hl 2 rfl) ?_
        refine lv_if_ne (tgt := 83) x.1 x.2.1 dd_md_up_64 (by decide) (fun c883 => absurd (by decide +kernel) c883) (fun c883 => ?_)
        refine lv_aload_n x.1 x.2.1 dd_md_up_67 rfl (lv_at hl 0 rfl) ?_
        refine lv_iload_n x.1 x.2.1 dd_md_up_68 rfl (lv_at hl 1 rfl) ?_
        refine lv_iload x.1 x.2.1 dd_md_up_69 (lv_at hl 4 rfl) ?_
        refine mp_call x (wt_mv base) hG hB hl.1 (mp_invS (av := [.int (nI a0), .int (nI j)]) x mn_md_at mc_md_at (Or.inl ww_826) ww_827 ww_60 rfl dd_md_up_71) (kk_M_at (a0 := a0) (b0 := j)) (Nat.le_trans (Nat.le_of_ble_eq_true rfl) hfr) (Nat.le_trans (Nat.le_of_ble_eq_true rfl) hlo) (Nat.le_trans (Nat.le_of_ble_eq_true rfl) hce) (Nat.le_trans (Nat.le_of_ble_eq_true rfl) hsl) hH hS (fun v σa t0 H locs hp884 ht0 hvm hzz hH hS => ?_) (fun _ _ _ _ _ hz _ _ _ _ _ => by cases hz.1)
        obtain ⟨ho, hσ⟩ := hp884
        cases ho
        rw [hσ] at hH
        refine W.eq (g2 := F0 m 74 ls [.int (nI (20 * a0 + j)), .ref (ad 13 0)]) rfl ?_
        refine mp_call x (wt_mv base) hG hB hl.1 (mp_invV (av := [.int (nI (20 * a0 + j))]) x hH (la13 hL) rfl rfl mn_md_endAsking mc_md_endAsking (Or.inl ww_829) ww_831 ww_42 rfl dd_md_up_74) (kk_M_end (a := 20 * a0 + j) hL (by omega)) (Nat.le_trans (Nat.le_of_ble_eq_true rfl) hfr) (Nat.le_trans (Nat.le_of_ble_eq_true rfl) hlo) (Nat.le_trans (Nat.le_of_ble_eq_true rfl) hce) (Nat.le_trans (Nat.le_of_ble_eq_true rfl) hsl) hH hS (fun v σa t0 H locs hp885 ht0 hvm hzz hH hS => ?_) (fun _ _ _ _ _ hz _ _ _ _ _ => by cases hz.1)
        obtain ⟨ho, hL⟩ := hp885
        cases ho
        refine W.eq (g2 := F0 m 77 ls []) rfl ?_
        refine lv_iinc (v := nI (j + 1)) (lv' := [(4, .int (nI (j + 1))), (0, .ref (ad 13 0)), (1, .int (nI a0)), (2, .int (nI 0)), (3, .int (nI 0))]) x.1 x.2.1 dd_md_up_77 hl (k := 4) rfl (mn_inc _) (by decide) rfl (fun ls hl => ?_)
        refine lv_goto (tgt := 56) x.1 x.2.1 dd_md_up_80 (by decide) ?_
        exact ihloop880 (j + 1) _ (by omega) hL (by omega) ls H _ (lv_sub hl [1, 2, 3, 4, 0] rfl) hH hS
  exact loop880 _ 0 _ (by decide) hL (Nat.lt_succ_self _) ls H _ (lv_sub hl [2, 3, 4, 1, 0] rfl) hH hS
set_option maxRecDepth 100000 in
set_option maxHeartbeats 4000000 in
theorem kk_MX_up_11 {l : Launch} {D : va_G} {ar : Nat → ClassId} {base : Nat} {σ : mp_M} {ad : Nat → Nat → Nat} {rg : Nat → Bool} {pl : Nat → Nat} {V M : fV} {a0 : Nat} (hL : Lay ar ad rg pl V M σ) (ha : a0 < 25) (hdn : M 2 a0 = nI 1) : CN l D ar base yy_md_up prog_9_method_26_code 5 (Option.some Jvm.ClassFile.FieldType.boolean) [] 2 26 0 0 [.ref (ad 13 0), .int (nI a0), .int (nI 1)] σ (fun o σ' _ => o = .returned (some (.int (nI 1))) ∧ Lay ar ad rg pl V (mu (mu M 27 0 (nI 0)) 2 a0 (nI 0)) σ') := by
  refine mp_in (Nat.le_of_ble_eq_true rfl) ?_
  intro p e R s m below meth c x hfr hlo hce hsl hr hlk hin hex hG hB ls H hH0 hH hS hl
  have hl : lv_has ls 5 [(0, .ref (ad 13 0)), (1, .int (nI a0)), (2, .int (nI 1))] := hl
  refine lv_aload_n x.1 x.2.1 dd_md_up_0 rfl (lv_at hl 0 rfl) ?_
  refine lv_iload_n x.1 x.2.1 dd_md_up_1 rfl (lv_at hl 1 rfl) ?_
  refine mp_call x (wt_mv base) hG hB hl.1 (mp_invS (av := [.int (nI a0)]) x mn_md_isShop mc_md_isShop (Or.inl ww_822) ww_823 ww_60 rfl dd_md_up_2) (kk_M_isShop_ok (in_ok (by omega) (by decide))) (Nat.le_trans (Nat.le_of_ble_eq_true rfl) hfr) (Nat.le_trans (Nat.le_of_ble_eq_true rfl) hlo) (Nat.le_trans (Nat.le_of_ble_eq_true rfl) hce) (Nat.le_trans (Nat.le_of_ble_eq_true rfl) hsl) hH hS (fun v σa t0 H locs hp886 ht0 hvm hzz hH hS => ?_) (fun _ _ _ _ _ hz _ _ _ _ _ => by cases hz.1)
  obtain ⟨ho, hσ⟩ := hp886
  cases ho
  rw [hσ] at hH
  refine W.eq (g2 := F0 m 5 ls [.int (nI 1), .ref (ad 13 0)]) rfl ?_
  refine lv_if_ne (tgt := 12) x.1 x.2.1 dd_md_up_5 (by decide) (fun c887 => ?_) (fun c887 => absurd c887 (by decide +kernel))
  refine lv_iconst (v := nI 0) x.1 x.2.1 dd_md_up_12 (by decide +kernel) ?_
  refine lv_iconst (v := nI 1) x.1 x.2.1 dd_md_up_13 (by decide +kernel) ?_
  refine mp_call x (wt_mv base) hG hB hl.1 (mp_invV (av := [.int (nI 0), .int (nI 1)]) x hH (la13 hL) rfl rfl mn_md_fails mc_md_fails (Or.inl ww_814) ww_816 ww_41 rfl dd_md_up_14) (kk_M_fails0 hL) (Nat.le_trans (Nat.le_of_ble_eq_true rfl) hfr) (Nat.le_trans (Nat.le_of_ble_eq_true rfl) hlo) (Nat.le_trans (Nat.le_of_ble_eq_true rfl) hce) (Nat.le_trans (Nat.le_of_ble_eq_true rfl) hsl) hH hS (fun v σa t0 H locs hp888 ht0 hvm hzz hH hS => ?_) (fun _ _ _ _ _ hz _ _ _ _ _ => by cases hz.1)
  obtain ⟨ho, hL⟩ := hp888
  cases ho
  refine W.eq (g2 := F0 m 17 ls [.int (nI 0)]) rfl ?_
  refine lv_if_eq (tgt := 22) x.1 x.2.1 dd_md_up_17 (by decide) (fun c889 => ?_) (fun c889 => absurd (by decide +kernel) c889)
  refine lv_aload_n x.1 x.2.1 dd_md_up_22 rfl (lv_at hl 0 rfl) ?_
  refine mp_get x hH (la13 hL) fg_md_16 rfl dd_md_up_23 ?_
  refine lv_iload_n x.1 x.2.1 dd_md_up_26 rfl (lv_at hl 1 rfl) ?_
  refine kz_ld x hH hL (j := a0) (by omega) dd_md_up_27 ?_
  refine mn_top (w := nI 1) ((mu_k (by decide)).trans (hdn)) ?_
  refine lv_iload_n x.1 x.2.1 dd_md_up_28 rfl (lv_at hl 2 rfl) ?_
  refine lv_icmp_ne (tgt := 36) x.1 x.2.1 dd_md_up_29 (by decide) (fun c890 => absurd (by decide +kernel) c890) (fun c890 => ?_)
  refine lv_iconst (v := nI 1) x.1 x.2.1 dd_md_up_32 (by decide +kernel) ?_
  refine lv_goto (tgt := 37) x.1 x.2.1 dd_md_up_33 (by decide) ?_
  refine lv_istore_n (lv' := [(3, .int (nI 1)), (0, .ref (ad 13 0)), (1, .int (nI a0)), (2, .int (nI 1))]) x.1 x.2.1 dd_md_up_37 rfl hl (by decide) rfl (fun ls hl => ?_)
  refine lv_aload_n x.1 x.2.1 dd_md_up_38 rfl (lv_at hl 1 rfl) ?_
  refine mp_get x hH (la13 hL) fg_md_16 rfl dd_md_up_39 ?_
  refine lv_iload_n x.1 x.2.1 dd_md_up_42 rfl (lv_at hl 2 rfl) ?_
  refine lv_iload_n x.1 x.2.1 dd_md_up_43 rfl (lv_at hl 3 rfl) ?_
  refine lv_if_ne (tgt := 51) x.1 x.2.1 dd_md_up_44 (by decide) (fun c891 => ?_) (fun c891 => absurd c891 (by decide +kernel))
  refine lv_iconst (v := nI 0) x.1 x.2.1 dd_md_up_51 (by decide +kernel) ?_
  refine kz_st x hH hS hL (j := a0) (by decide +kernel) (by omega) dd_md_up_52 (fun σ hL H locs hH hS => ?_)
  refine lv_iconst (v := nI 0) x.1 x.2.1 dd_md_up_53 (by decide +kernel) ?_
  refine lv_istore (lv' := [(4, .int (nI 0)), (3, .int (nI 1)), (0, .ref (ad 13 0)), (1, .int (nI a0)), (2, .int (nI 1))]) x.1 x.2.1 dd_md_up_54 hl (by decide) rfl (fun ls hl => ?_)
  refine lv_iload x.1 x.2.1 dd_md_up_56 (lv_at hl 0 rfl) ?_
  refine lv_bipush (v := nI 20) x.1 x.2.1 dd_md_up_58 (by decide +kernel) ?_
  refine lv_icmp_ge (tgt := 83) x.1 x.2.1 dd_md_up_60 (by decide) (fun c892 => absurd c892 (by decide +kernel)) (fun c892 => ?_)
  refine lv_iload_n x.1 x.2.1 dd_md_up_63 rfl (lv_at hl 4 rfl) ?_
  refine lv_if_ne (tgt := 83) x.1 x.2.1 dd_md_up_64 (by decide) (fun c893 => ?_) (fun c893 => absurd c893 (by decide +kernel))
  refine lv_iload_n x.1 x.2.1 dd_md_up_83 rfl (lv_at hl 1 rfl) ?_
  exact mp_rz x hr (by decide) hlk (by decide) (by decide) hH hS (fun _ => ⟨rfl, hL⟩) dd_md_up_84
set_option maxRecDepth 100000 in
set_option maxHeartbeats 4000000 in
theorem kk_MX_teach_0 {l : Launch} {D : va_G} {ar : Nat → ClassId} {base : Nat} {σ : mp_M} {ad : Nat → Nat → Nat} {rg : Nat → Bool} {pl : Nat → Nat} {V M : fV} {a0 a1 b0 a n dc : Nat} (hL : Lay ar ad rg pl V M σ) (hA : 20 * a0 + b0 = a) (ha : a0 < 25) (hb : b0 < 20) (ha1 : a1 < 25) (hn : M 22 0 = nI n) (hn2 : n ≤ 100) (hdc : M 3 a = nI dc) (hdl : dc ≤ 12) (hdn : M 2 a0 = nI 0) : CN l D ar base yy_md_teach prog_9_method_27_code 5 (Option.some Jvm.ClassFile.FieldType.boolean) [] 2 37 0 0 [.ref (ad 13 0), .int (nI a0), .int (nI a1), .int (nI b0)] σ (fun o σ' _ => o = .returned (some (.int (if n < 100 then nI 1 else nI 0))) ∧ Lay ar ad rg pl V (msn (mu (mu M 27 0 (nI 0)) 27 0 (nI 0)) n a dc a0 b0 (nI 6) (nI a1) (nI 0) (nI 0) (nI 0) (-1) (-1)) σ') := by
  refine mp_in (Nat.le_of_ble_eq_true rfl) ?_
  intro p e R s m below meth c x hfr hlo hce hsl hr hlk hin hex hG hB ls H hH0 hH hS hl
  have hl : lv_has ls 5 [(0, .ref (ad 13 0)), (1, .int (nI a0)), (2, .int (nI a1)), (3, .int (nI b0))] := hl
  refine lv_aload_n x.1 x.2.1 dd_md_teach_0 rfl (lv_at hl 0 rfl) ?_
  refine lv_iload_n x.1 x.2.1 dd_md_teach_1 rfl (lv_at hl 1 rfl) ?_
  refine mp_call x (wt_mv base) hG hB hl.1 (mp_invS (av := [.int (nI a0)]) x mn_md_isShop mc_md_isShop (Or.inl ww_822) ww_823 ww_60 rfl dd_md_teach_2) (kk_M_isShop_ok (in_ok (by omega) (by decide))) (Nat.le_trans (Nat.le_of_ble_eq_true rfl) hfr) (Nat.le_trans (Nat.le_of_ble_eq_true rfl) hlo) (Nat.le_trans (Nat.le_of_ble_eq_true rfl) hce) (Nat.le_trans (Nat.le_of_ble_eq_true rfl) hsl) hH hS (fun v σa t0 H locs hp894 ht0 hvm hzz hH hS => ?_) (fun _ _ _ _ _ hz _ _ _ _ _ => by cases hz.1)
  obtain ⟨ho, hσ⟩ := hp894
  cases ho
  rw [hσ] at hH
  refine W.eq (g2 := F0 m 5 ls [.int (nI 1), .ref (ad 13 0)]) rfl ?_
  refine lv_if_eq (tgt := 22) x.1 x.2.1 dd_md_teach_5 (by decide) (fun c895 => absurd c895 (by decide +kernel)) (fun c895 => ?_)
  refine lv_iload_n x.1 x.2.1 dd_md_teach_8 rfl (lv_at hl 2 rfl) ?_
  refine mp_call x (wt_mv base) hG hB hl.1 (mp_invS (av := [.int (nI a1)]) x mn_md_isShop mc_md_isShop (Or.inl ww_822) ww_823 ww_60 rfl dd_md_teach_9) (kk_M_isShop_ok (in_ok (by omega) (by decide))) (Nat.le_trans (Nat.le_of_ble_eq_true rfl) hfr) (Nat.le_trans (Nat.le_of_ble_eq_true rfl) hlo) (Nat.le_trans (Nat.le_of_ble_eq_true rfl) hce) (Nat.le_trans (Nat.le_of_ble_eq_true rfl) hsl) hH hS (fun v σa t0 H locs hp896 ht0 hvm hzz hH hS => ?_) (fun _ _ _ _ _ hz _ _ _ _ _ => by cases hz.1)
  obtain ⟨ho, hσ⟩ := hp896
  cases ho
  rw [hσ] at hH
  refine W.eq (g2 := F0 m 12 ls [.int (nI 1), .ref (ad 13 0)]) rfl ?_
  refine lv_if_eq (tgt := 22) x.1 x.2.1 dd_md_teach_12 (by decide) (fun c897 => absurd c897 (by decide +kernel)) (fun c897 => ?_)
  refine lv_iload_n x.1 x.2.1 dd_md_teach_15 rfl (lv_at hl 3 rfl) ?_
  refine mp_call x (wt_mv base) hG hB hl.1 (mp_invS (av := [.int (nI b0)]) x mn_md_isPrescription mc_md_isPrescription (Or.inl ww_808) ww_809 ww_60 rfl dd_md_teach_16) (kk_M_isPrescription_ok (in_ok (by omega) (by decide))) (Nat.le_trans (Nat.le_of_ble_eq_true rfl) hfr) (Nat.le_trans (Nat.le_of_ble_eq_true rfl) hlo) (Nat.le_trans (Nat.le_of_ble_eq_true rfl) hce) (Nat.le_trans (Nat.le_of_ble_eq_true rfl) hsl) hH hS (fun v σa t0 H locs hp898 ht0 hvm hzz hH hS => ?_) (fun _ _ _ _ _ hz _ _ _ _ _ => by cases hz.1)
  obtain ⟨ho, hσ⟩ := hp898
  cases ho
  rw [hσ] at hH
  refine W.eq (g2 := F0 m 19 ls [.int (nI 1), .ref (ad 13 0)]) rfl ?_
  refine lv_if_ne (tgt := 26) x.1 x.2.1 dd_md_teach_19 (by decide) (fun c899 => ?_) (fun c899 => absurd c899 (by decide +kernel))
  refine lv_iconst (v := nI 0) x.1 x.2.1 dd_md_teach_26 (by decide +kernel) ?_
  refine lv_iconst (v := nI 1) x.1 x.2.1 dd_md_teach_27 (by decide +kernel) ?_
  refine mp_call x (wt_mv base) hG hB hl.1 (mp_invV (av := [.int (nI 0), .int (nI 1)]) x hH (la13 hL) rfl rfl mn_md_fails mc_md_fails (Or.inl ww_814) ww_816 ww_41 rfl dd_md_teach_28) (kk_M_fails0 hL) (Nat.le_trans (Nat.le_of_ble_eq_true rfl) hfr) (Nat.le_trans (Nat.le_of_ble_eq_true rfl) hlo) (Nat.le_trans (Nat.le_of_ble_eq_true rfl) hce) (Nat.le_trans (Nat.le_of_ble_eq_true rfl) hsl) hH hS (fun v σa t0 H locs hp900 ht0 hvm hzz hH hS => ?_) (fun _ _ _ _ _ hz _ _ _ _ _ => by cases hz.1)
  obtain ⟨ho, hL⟩ := hp900
  cases ho
  refine W.eq (g2 := F0 m 31 ls [.int (nI 0)]) rfl ?_
  refine lv_if_ne (tgt := 48) x.1 x.2.1 dd_md_teach_31 (by decide) (fun c901 => absurd (by decide +kernel) c901) (fun c901 => ?_)
  refine lv_aload_n x.1 x.2.1 dd_md_teach_34 rfl (lv_at hl 0 rfl) ?_
  refine lv_aload_n x.1 x.2.1 dd_md_teach_35 rfl (lv_at hl 0 rfl) ?_
  refine mp_get x hH (la13 hL) fg_md_16 rfl dd_md_teach_36 ?_
  refine lv_iload_n x.1 x.2.1 dd_md_teach_39 rfl (lv_at hl 1 rfl) ?_
  refine kz_ld x hH hL (j := a0) (by omega) dd_md_teach_40 ?_
  refine mn_top (w := nI 0) ((mu_k (by decide)).trans (hdn)) ?_
  refine lv_iconst (v := nI 2) x.1 x.2.1 dd_md_teach_41 (by decide +kernel) ?_
  refine mp_call x (wt_mv base) hG hB hl.1 (mp_invV (av := [.int (nI 0), .int (nI 2)]) x hH (la13 hL) rfl rfl mn_md_fails mc_md_fails (Or.inl ww_814) ww_816 ww_41 rfl dd_md_teach_42) (kk_M_fails0 hL) (Nat.le_trans (Nat.le_of_ble_eq_true rfl) hfr) (Nat.le_trans (Nat.le_of_ble_eq_true rfl) hlo) (Nat.le_trans (Nat.le_of_ble_eq_true rfl) hce) (Nat.le_trans (Nat.le_of_ble_eq_true rfl) hsl) hH hS (fun v σa t0 H locs hp902 ht0 hvm hzz hH hS => ?_) (fun _ _ _ _ _ hz _ _ _ _ _ => by cases hz.1)
  obtain ⟨ho, hL⟩ := hp902
  cases ho
  refine W.eq (g2 := F0 m 45 ls [.int (nI 0)]) rfl ?_
  refine lv_if_eq (tgt := 50) x.1 x.2.1 dd_md_teach_45 (by decide) (fun c903 => ?_) (fun c903 => absurd (by decide +kernel) c903)
  refine lv_aload_n x.1 x.2.1 dd_md_teach_50 rfl (lv_at hl 0 rfl) ?_
  refine mp_get x hH (la13 hL) fg_md_99 rfl dd_md_teach_51 ?_
  refine mn_top (w := nI n) ((mu_k (by decide)).trans ((mu_k (by decide)).trans (hn))) ?_
  refine lv_bipush (v := nI 100) x.1 x.2.1 dd_md_teach_54 (by decide +kernel) ?_
  refine lv_icmp_ge (tgt := 63) x.1 x.2.1 dd_md_teach_56 (by decide) (fun c904 => ?_) (fun c904 => ?_)
  · have c904 : 100 ≤ n := (cv_le (a := 100) (b := n) (by omega) (by omega)).mp c904
    refine lv_iconst (v := nI 0) x.1 x.2.1 dd_md_teach_63 (by decide +kernel) ?_
    refine lv_istore (lv' := [(4, .int (nI 0)), (0, .ref (ad 13 0)), (1, .int (nI a0)), (2, .int (nI a1)), (3, .int (nI b0))]) x.1 x.2.1 dd_md_teach_64 hl (by decide) rfl (fun ls hl => ?_)
    refine lv_aload_n x.1 x.2.1 dd_md_teach_66 rfl (lv_at hl 1 rfl) ?_
    refine lv_bipush (v := nI 6) x.1 x.2.1 dd_md_teach_67 (by decide +kernel) ?_
    refine lv_iload_n x.1 x.2.1 dd_md_teach_69 rfl (lv_at hl 2 rfl) ?_
    refine lv_iload_n x.1 x.2.1 dd_md_teach_70 rfl (lv_at hl 3 rfl) ?_
    refine lv_iload_n x.1 x.2.1 dd_md_teach_71 rfl (lv_at hl 4 rfl) ?_
    refine lv_iconst (v := nI 0) x.1 x.2.1 dd_md_teach_72 (by decide +kernel) ?_
    refine lv_iconst (v := nI 0) x.1 x.2.1 dd_md_teach_73 (by decide +kernel) ?_
    refine lv_iconst (v := nI 0) x.1 x.2.1 dd_md_teach_74 (by decide +kernel) ?_
    refine lv_iconst (v := (-1)) x.1 x.2.1 dd_md_teach_75 (by decide +kernel) ?_
    refine lv_iconst (v := (-1)) x.1 x.2.1 dd_md_teach_76 (by decide +kernel) ?_
    refine mp_call x (wt_mv base) hG hB hl.1 (mp_invV (av := [.int (nI 6), .int (nI a0), .int (nI a1), .int (nI b0), .int (nI 0), .int (nI 0), .int (nI 0), .int (-1), .int (-1)]) x hH (la13 hL) rfl rfl mn_md_send mc_md_send (Or.inl ww_837) ww_839 ww_44 rfl dd_md_teach_77) (kk_M_send (a := a) (n := n) (dc := dc) hL hA (by omega) (by omega) ((mu_k (by decide)).trans ((mu_k (by decide)).trans (hn))) (by omega) ((mu_k (by decide)).trans ((mu_k (by decide)).trans (hdc))) (by omega)) (Nat.le_trans (Nat.le_of_ble_eq_true rfl) hfr) (Nat.le_trans (Nat.le_of_ble_eq_true rfl) hlo) (Nat.le_trans (Nat.le_of_ble_eq_true rfl) hce) (Nat.le_trans (Nat.le_of_ble_eq_true rfl) hsl) hH hS (fun v σa t0 H locs hp905 ht0 hvm hzz hH hS => ?_) (fun _ _ _ _ _ hz _ _ _ _ _ => by cases hz.1)
    obtain ⟨ho, hL⟩ := hp905
    cases ho
    refine W.eq (g2 := F0 m 80 ls []) rfl ?_
    refine lv_iload x.1 x.2.1 dd_md_teach_80 (lv_at hl 0 rfl) ?_
    exact mp_rz x hr (by decide) hlk (by decide) (by decide) hH hS (fun _ => ⟨(congrArg (fun z => Outcome.returned (some (.int z))) ((if_neg (by omega)).symm)), hL⟩) dd_md_teach_82
  · have c904 : ¬ (100 ≤ n) := fun h => c904 ((cv_le (a := 100) (b := n) (by omega) (by omega)).mpr h)
    refine lv_iconst (v := nI 1) x.1 x.2.1 dd_md_teach_59 (by decide +kernel) ?_
    refine lv_goto (tgt := 64) x.1 x.2.1 dd_md_teach_60 (by decide) ?_
    refine lv_istore (lv' := [(4, .int (nI 1)), (0, .ref (ad 13 0)), (1, .int (nI a0)), (2, .int (nI a1)), (3, .int (nI b0))]) x.1 x.2.1 dd_md_teach_64 hl (by decide) rfl (fun ls hl => ?_)
    refine lv_aload_n x.1 x.2.1 dd_md_teach_66 rfl (lv_at hl 1 rfl) ?_
    refine lv_bipush (v := nI 6) x.1 x.2.1 dd_md_teach_67 (by decide +kernel) ?_
    refine lv_iload_n x.1 x.2.1 dd_md_teach_69 rfl (lv_at hl 2 rfl) ?_
    refine lv_iload_n x.1 x.2.1 dd_md_teach_70 rfl (lv_at hl 3 rfl) ?_
    refine lv_iload_n x.1 x.2.1 dd_md_teach_71 rfl (lv_at hl 4 rfl) ?_
    refine lv_iconst (v := nI 0) x.1 x.2.1 dd_md_teach_72 (by decide +kernel) ?_
    refine lv_iconst (v := nI 0) x.1 x.2.1 dd_md_teach_73 (by decide +kernel) ?_
    refine lv_iconst (v := nI 0) x.1 x.2.1 dd_md_teach_74 (by decide +kernel) ?_
    refine lv_iconst (v := (-1)) x.1 x.2.1 dd_md_teach_75 (by decide +kernel) ?_
    refine lv_iconst (v := (-1)) x.1 x.2.1 dd_md_teach_76 (by decide +kernel) ?_
    refine mp_call x (wt_mv base) hG hB hl.1 (mp_invV (av := [.int (nI 6), .int (nI a0), .int (nI a1), .int (nI b0), .int (nI 0), .int (nI 0), .int (nI 0), .int (-1), .int (-1)]) x hH (la13 hL) rfl rfl mn_md_send mc_md_send (Or.inl ww_837) ww_839 ww_44 rfl dd_md_teach_77) (kk_M_send (a := a) (n := n) (dc := dc) hL hA (by omega) (by omega) ((mu_k (by decide)).trans ((mu_k (by decide)).trans (hn))) (by omega) ((mu_k (by decide)).trans ((mu_k (by decide)).trans (hdc))) (by omega)) (Nat.le_trans (Nat.le_of_ble_eq_true rfl) hfr) (Nat.le_trans (Nat.le_of_ble_eq_true rfl) hlo) (Nat.le_trans (Nat.le_of_ble_eq_true rfl) hce) (Nat.le_trans (Nat.le_of_ble_eq_true rfl) hsl) hH hS (fun v σa t0 H locs hp906 ht0 hvm hzz hH hS => ?_) (fun _ _ _ _ _ hz _ _ _ _ _ => by cases hz.1)
    obtain ⟨ho, hL⟩ := hp906
    cases ho
    refine W.eq (g2 := F0 m 80 ls []) rfl ?_
    refine lv_iload x.1 x.2.1 dd_md_teach_80 (lv_at hl 0 rfl) ?_
    exact mp_rz x hr (by decide) hlk (by decide) (by decide) hH hS (fun _ => ⟨(congrArg (fun z => Outcome.returned (some (.int z))) ((if_pos (by omega)).symm)), hL⟩) dd_md_teach_82
set_option maxRecDepth 100000 in
set_option maxHeartbeats 4000000 in
theorem kk_MX_teach_2 {l : Launch} {D : va_G} {ar : Nat → ClassId} {base : Nat} {σ : mp_M} {ad : Nat → Nat → Nat} {rg : Nat → Bool} {pl : Nat → Nat} {V M : fV} {a0 a1 b0 : Nat} (hL : Lay ar ad rg pl V M σ) (ha : a0 < 25) (ha1 : a1 < 25) (hb : b0 < 20) (hdn : M 2 a0 = nI 1) : CN l D ar base yy_md_teach prog_9_method_27_code 5 (Option.some Jvm.ClassFile.FieldType.boolean) [] 2 26 0 0 [.ref (ad 13 0), .int (nI a0), .int (nI a1), .int (nI b0)] σ (fun o σ' _ => o = .returned (some (.int (nI 0))) ∧ Lay ar ad rg pl V (mu (mu M 27 0 (nI 0)) 27 0 (nI 2)) σ') := by
  refine mp_in (Nat.le_of_ble_eq_true rfl) ?_
  intro p e R s m below meth c x hfr hlo hce hsl hr hlk hin hex hG hB ls H hH0 hH hS hl
  have hl : lv_has ls 5 [(0, .ref (ad 13 0)), (1, .int (nI a0)), (2, .int (nI a1)), (3, .int (nI b0))] := hl
  refine lv_aload_n x.1 x.2.1 dd_md_teach_0 rfl (lv_at hl 0 rfl) ?_
  refine lv_iload_n x.1 x.2.1 dd_md_teach_1 rfl (lv_at hl 1 rfl) ?_
  refine mp_call x (wt_mv base) hG hB hl.1 (mp_invS (av := [.int (nI a0)]) x mn_md_isShop mc_md_isShop (Or.inl ww_822) ww_823 ww_60 rfl dd_md_teach_2) (kk_M_isShop_ok (in_ok (by omega) (by decide))) (Nat.le_trans (Nat.le_of_ble_eq_true rfl) hfr) (Nat.le_trans (Nat.le_of_ble_eq_true rfl) hlo) (Nat.le_trans (Nat.le_of_ble_eq_true rfl) hce) (Nat.le_trans (Nat.le_of_ble_eq_true rfl) hsl) hH hS (fun v σa t0 H locs hp917 ht0 hvm hzz hH hS => ?_) (fun _ _ _ _ _ hz _ _ _ _ _ => by cases hz.1)
  obtain ⟨ho, hσ⟩ := hp917
  cases ho
  rw [hσ] at hH
  refine W.eq (g2 := F0 m 5 ls [.int (nI 1), .ref (ad 13 0)]) rfl ?_
  refine lv_if_eq (tgt := 22) x.1 x.2.1 dd_md_teach_5 (by decide) (fun c918 => absurd c918 (by decide +kernel)) (fun c918 => ?_)
  refine lv_iload_n x.1 x.2.1 dd_md_teach_8 rfl (lv_at hl 2 rfl) ?_
  refine mp_call x (wt_mv base) hG hB hl.1 (mp_invS (av := [.int (nI a1)]) x mn_md_isShop mc_md_isShop (Or.inl ww_822) ww_823 ww_60 rfl dd_md_teach_9) (kk_M_isShop_ok (in_ok (by omega) (by decide))) (Nat.le_trans (Nat.le_of_ble_eq_true rfl) hfr) (Nat.le_trans (Nat.le_of_ble_eq_true rfl) hlo) (Nat.le_trans (Nat.le_of_ble_eq_true rfl) hce) (Nat.le_trans (Nat.le_of_ble_eq_true rfl) hsl) hH hS (fun v σa t0 H locs hp919 ht0 hvm hzz hH hS => ?_) (fun _ _ _ _ _ hz _ _ _ _ _ => by cases hz.1)
  obtain ⟨ho, hσ⟩ := hp919
  cases ho
  rw [hσ] at hH
  refine W.eq (g2 := F0 m 12 ls [.int (nI 1), .ref (ad 13 0)]) rfl ?_
  refine lv_if_eq (tgt := 22) x.1 x.2.1 dd_md_teach_12 (by decide) (fun c920 => absurd c920 (by decide +kernel)) (fun c920 => ?_)
  refine lv_iload_n x.1 x.2.1 dd_md_teach_15 rfl (lv_at hl 3 rfl) ?_
  refine mp_call x (wt_mv base) hG hB hl.1 (mp_invS (av := [.int (nI b0)]) x mn_md_isPrescription mc_md_isPrescription (Or.inl ww_808) ww_809 ww_60 rfl dd_md_teach_16) (kk_M_isPrescription_ok (in_ok (by omega) (by decide))) (Nat.le_trans (Nat.le_of_ble_eq_true rfl) hfr) (Nat.le_trans (Nat.le_of_ble_eq_true rfl) hlo) (Nat.le_trans (Nat.le_of_ble_eq_true rfl) hce) (Nat.le_trans (Nat.le_of_ble_eq_true rfl) hsl) hH hS (fun v σa t0 H locs hp921 ht0 hvm hzz hH hS => ?_) (fun _ _ _ _ _ hz _ _ _ _ _ => by cases hz.1)
  obtain ⟨ho, hσ⟩ := hp921
  cases ho
  rw [hσ] at hH
  refine W.eq (g2 := F0 m 19 ls [.int (nI 1), .ref (ad 13 0)]) rfl ?_
  refine lv_if_ne (tgt := 26) x.1 x.2.1 dd_md_teach_19 (by decide) (fun c922 => ?_) (fun c922 => absurd c922 (by decide +kernel))
  refine lv_iconst (v := nI 0) x.1 x.2.1 dd_md_teach_26 (by decide +kernel) ?_
  refine lv_iconst (v := nI 1) x.1 x.2.1 dd_md_teach_27 (by decide +kernel) ?_
  refine mp_call x (wt_mv base) hG hB hl.1 (mp_invV (av := [.int (nI 0), .int (nI 1)]) x hH (la13 hL) rfl rfl mn_md_fails mc_md_fails (Or.inl ww_814) ww_816 ww_41 rfl dd_md_teach_28) (kk_M_fails0 hL) (Nat.le_trans (Nat.le_of_ble_eq_true rfl) hfr) (Nat.le_trans (Nat.le_of_ble_eq_true rfl) hlo) (Nat.le_trans (Nat.le_of_ble_eq_true rfl) hce) (Nat.le_trans (Nat.le_of_ble_eq_true rfl) hsl) hH hS (fun v σa t0 H locs hp923 ht0 hvm hzz hH hS => ?_) (fun _ _ _ _ _ hz _ _ _ _ _ => by cases hz.1)
  obtain ⟨ho, hL⟩ := hp923
  cases ho
  refine W.eq (g2 := F0 m 31 ls [.int (nI 0)]) rfl ?_
  refine lv_if_ne (tgt := 48) x.1 x.2.1 dd_md_teach_31 (by decide) (fun c924 => absurd (by decide +kernel) c924) (fun c924 => ?_)
  refine lv_aload_n x.1 x.2.1 dd_md_teach_34 rfl (lv_at hl 0 rfl) ?_
  refine lv_aload_n x.1 x.2.1 dd_md_teach_35 rfl (lv_at hl 0 rfl) ?_
  refine mp_get x hH (la13 hL) fg_md_16 rfl dd_md_teach_36 ?_
  refine lv_iload_n x.1 x.2.1 dd_md_teach_39 rfl (lv_at hl 1 rfl) ?_
  refine kz_ld x hH hL (j := a0) (by omega) dd_md_teach_40 ?_
  refine mn_top (w := nI 1) ((mu_k (by decide)).trans (hdn)) ?_
  refine lv_iconst (v := nI 2) x.1 x.2.1 dd_md_teach_41 (by decide +kernel) ?_
  refine mp_call x (wt_mv base) hG hB hl.1 (mp_invV (av := [.int (nI 1), .int (nI 2)]) x hH (la13 hL) rfl rfl mn_md_fails mc_md_fails (Or.inl ww_814) ww_816 ww_41 rfl dd_md_teach_42) (kk_M_fails1 hL) (Nat.le_trans (Nat.le_of_ble_eq_true rfl) hfr) (Nat.le_trans (Nat.le_of_ble_eq_true rfl) hlo) (Nat.le_trans (Nat.le_of_ble_eq_true rfl) hce) (Nat.le_trans (Nat.le_of_ble_eq_true rfl) hsl) hH hS (fun v σa t0 H locs hp925 ht0 hvm hzz hH hS => ?_) (fun _ _ _ _ _ hz _ _ _ _ _ => by cases hz.1)
  obtain ⟨ho, hL⟩ := hp925
  cases ho
  refine W.eq (g2 := F0 m 45 ls [.int (nI 1)]) rfl ?_
  refine lv_if_eq (tgt := 50) x.1 x.2.1 dd_md_teach_45 (by decide) (fun c926 => absurd c926 (by decide +kernel)) (fun c926 => ?_)
  refine lv_iconst (v := nI 0) x.1 x.2.1 dd_md_teach_48 (by decide +kernel) ?_
  exact mp_rz x hr (by decide) hlk (by decide) (by decide) hH hS (fun _ => ⟨rfl, hL⟩) dd_md_teach_49
set_option maxRecDepth 100000 in
set_option maxHeartbeats 4000000 in
theorem kk_MX_pool {l : Launch} {D : va_G} {ar : Nat → ClassId} {base : Nat} {σ : mp_M} {ad : Nat → Nat → Nat} {rg : Nat → Bool} {pl : Nat → Nat} {V M : fV}  (hL : Lay ar ad rg pl V M σ)  : CN l D ar base yy_md_pool prog_9_method_28_code 1 (Option.some Jvm.ClassFile.FieldType.int) [] 0 0 0 0 [.ref (ad 13 0)] σ (fun o σ' _ => o = .returned (some (.int (M 22 0))) ∧ Lay ar ad rg pl V (mu M 27 0 (nI 0)) σ') := by
  refine mp_in (Nat.le_of_ble_eq_true rfl) ?_
  intro p e R s m below meth c x hfr hlo hce hsl hr hlk hin hex hG hB ls H hH0 hH hS hl
  have hl : lv_has ls 1 [(0, .ref (ad 13 0))] := hl
  refine lv_aload_n x.1 x.2.1 dd_md_pool_0 rfl (lv_at hl 0 rfl) ?_
  refine lv_iconst (v := nI 0) x.1 x.2.1 dd_md_pool_1 (by decide +kernel) ?_
  refine kp_27 x hH hS hL fp_md_80 dd_md_pool_2 (fun σ hL H locs hH hS => ?_)
  refine lv_aload_n x.1 x.2.1 dd_md_pool_5 rfl (lv_at hl 0 rfl) ?_
  refine mp_get x hH (la13 hL) fg_md_99 rfl dd_md_pool_6 ?_
  refine mn_top (w := M 22 0) (mu_k (by decide)) ?_
  exact mp_ri x hr hlk (by decide) (by decide) hH hS (fun _ => ⟨rfl, hL⟩) dd_md_pool_9
set_option maxRecDepth 100000 in
set_option maxHeartbeats 4000000 in
theorem kk_MX_letter_0 {l : Launch} {D : va_G} {ar : Nat → ClassId} {base : Nat} {σ : mp_M} {ad : Nat → Nat → Nat} {rg : Nat → Bool} {pl : Nat → Nat} {V M : fV} {i j n : Nat} (hL : Lay ar ad rg pl V M σ) (hn : M 22 0 = nI n) (hn2 : n ≤ 100) (hi : i < n) (hj : j < 10) : CN l D ar base yy_md_letter prog_9_method_29_code 3 (Option.some Jvm.ClassFile.FieldType.int) [] 1 14 0 0 [.ref (ad 13 0), .int (nI i), .int (nI j)] σ (fun o σ' _ => o = .returned (some (.int (M 21 (34 * i + j)))) ∧ Lay ar ad rg pl V (mu M 27 0 (nI 0)) σ') := by
  refine mp_in (Nat.le_of_ble_eq_true rfl) ?_
  intro p e R s m below meth c x hfr hlo hce hsl hr hlk hin hex hG hB ls H hH0 hH hS hl
  have hl : lv_has ls 3 [(0, .ref (ad 13 0)), (1, .int (nI i)), (2, .int (nI j))] := hl
  refine lv_aload_n x.1 x.2.1 dd_md_letter_0 rfl (lv_at hl 0 rfl) ?_
  refine lv_iload_n x.1 x.2.1 dd_md_letter_1 rfl (lv_at hl 1 rfl) ?_
  refine lv_aload_n x.1 x.2.1 dd_md_letter_2 rfl (lv_at hl 0 rfl) ?_
  refine mp_get x hH (la13 hL) fg_md_99 rfl dd_md_letter_3 ?_
  refine mn_top (w := nI n) (hn) ?_
  refine mp_call x (wt_mv base) hG hB hl.1 (mp_invS (av := [.int (nI i), .int (nI n)]) x mn_md_within mc_md_within (Or.inl ww_811) ww_812 ww_60 rfl dd_md_letter_6) (kk_M_within_ok (in_ok (by omega) (by omega))) (Nat.le_trans (Nat.le_of_ble_eq_true rfl) hfr) (Nat.le_trans (Nat.le_of_ble_eq_true rfl) hlo) (Nat.le_trans (Nat.le_of_ble_eq_true rfl) hce) (Nat.le_trans (Nat.le_of_ble_eq_true rfl) hsl) hH hS (fun v σa t0 H locs hp933 ht0 hvm hzz hH hS => ?_) (fun _ _ _ _ _ hz _ _ _ _ _ => by cases hz.1)
  obtain ⟨ho, hσ⟩ := hp933
  cases ho
  rw [hσ] at hH
  refine W.eq (g2 := F0 m 9 ls [.int (nI 1), .ref (ad 13 0)]) rfl ?_
  refine lv_if_eq (tgt := 21) x.1 x.2.1 dd_md_letter_9 (by decide) (fun c934 => absurd c934 (by decide +kernel)) (fun c934 => ?_)
  refine lv_iload_n x.1 x.2.1 dd_md_letter_12 rfl (lv_at hl 2 rfl) ?_
  refine lv_bipush (v := nI 10) x.1 x.2.1 dd_md_letter_13 (by decide +kernel) ?_
  refine mp_call x (wt_mv base) hG hB hl.1 (mp_invS (av := [.int (nI j), .int (nI 10)]) x mn_md_within mc_md_within (Or.inl ww_811) ww_812 ww_60 rfl dd_md_letter_15) (kk_M_within_ok (in_ok (by omega) (by decide))) (Nat.le_trans (Nat.le_of_ble_eq_true rfl) hfr) (Nat.le_trans (Nat.le_of_ble_eq_true rfl) hlo) (Nat.le_trans (Nat.le_of_ble_eq_true rfl) hce) (Nat.le_trans (Nat.le_of_ble_eq_true rfl) hsl) hH hS (fun v σa t0 H locs hp935 ht0 hvm hzz hH hS => ?_) (fun _ _ _ _ _ hz _ _ _ _ _ => by cases hz.1)
  obtain ⟨ho, hσ⟩ := hp935
  cases ho
  rw [hσ] at hH
  refine W.eq (g2 := F0 m 18 ls [.int (nI 1), .ref (ad 13 0)]) rfl ?_
  refine lv_if_ne (tgt := 25) x.1 x.2.1 dd_md_letter_18 (by decide) (fun c936 => ?_) (fun c936 => absurd c936 (by decide +kernel))
  refine lv_iconst (v := nI 0) x.1 x.2.1 dd_md_letter_25 (by decide +kernel) ?_
  refine lv_iconst (v := nI 1) x.1 x.2.1 dd_md_letter_26 (by decide +kernel) ?_
  refine mp_call x (wt_mv base) hG hB hl.1 (mp_invV (av := [.int (nI 0), .int (nI 1)]) x hH (la13 hL) rfl rfl mn_md_fails mc_md_fails (Or.inl ww_814) ww_816 ww_41 rfl dd_md_letter_27) (kk_M_fails0 hL) (Nat.le_trans (Nat.le_of_ble_eq_true rfl) hfr) (Nat.le_trans (Nat.le_of_ble_eq_true rfl) hlo) (Nat.le_trans (Nat.le_of_ble_eq_true rfl) hce) (Nat.le_trans (Nat.le_of_ble_eq_true rfl) hsl) hH hS (fun v σa t0 H locs hp937 ht0 hvm hzz hH hS => ?_) (fun _ _ _ _ _ hz _ _ _ _ _ => by cases hz.1)
  obtain ⟨ho, hL⟩ := hp937
  cases ho
  refine W.eq (g2 := F0 m 30 ls [.int (nI 0)]) rfl ?_
  refine lv_if_eq (tgt := 35) x.1 x.2.1 dd_md_letter_30 (by decide) (fun c938 => ?_) (fun c938 => absurd (by decide +kernel) c938)
  refine lv_aload_n x.1 x.2.1 dd_md_letter_35 rfl (lv_at hl 0 rfl) ?_
  refine mp_get x hH (la13 hL) fg_md_74 rfl dd_md_letter_36 ?_
  refine lv_bipush (v := nI 34) x.1 x.2.1 dd_md_letter_39 (by decide +kernel) ?_
  refine lv_iload_n x.1 x.2.1 dd_md_letter_41 rfl (lv_at hl 1 rfl) ?_
  refine lv_imul x.1 x.2.1 dd_md_letter_42 ?_
  refine mn_top (w := nI (34 * i)) (pk_mul _ _) ?_
  refine lv_iload_n x.1 x.2.1 dd_md_letter_43 rfl (lv_at hl 2 rfl) ?_
  refine lv_iadd x.1 x.2.1 dd_md_letter_44 ?_
  refine mn_top (w := nI (34 * i + j)) (nI_add _ _) ?_
  refine ka_ld x hH hL 21 (j := 34 * i + j) (by decide) (by decide) (show 34 * i + j < 3400 from (by omega)) (by decide) dd_md_letter_45 ?_
  refine mn_top (w := M 21 (34 * i + j)) (mu_k (by decide)) ?_
  exact mp_ri x hr hlk (by decide) (by decide) hH hS (fun _ => ⟨rfl, hL⟩) dd_md_letter_46
def mst (M : fV) (a a0 dc : Nat) : Int32 := if 0 < M 11 a then nI 1 else if dc = 0 then nI 0 else if M 9 (12 * a + dc - 1) = nI a0 then nI 2 else nI 3
set_option maxRecDepth 100000 in
set_option maxHeartbeats 4000000 in
theorem kk_MX_state_0 {l : Launch} {D : va_G} {ar : Nat → ClassId} {base : Nat} {σ : mp_M} {ad : Nat → Nat → Nat} {rg : Nat → Bool} {pl : Nat → Nat} {V M : fV} {a0 b0 a dc : Nat} (hL : Lay ar ad rg pl V M σ) (hA : 20 * a0 + b0 = a) (ha : a0 < 25) (hb : b0 < 20) (hdc : M 3 a = nI dc) (hdl : dc ≤ 12)  : CN l D ar base yy_md_state prog_9_method_30_code 4 (Option.some Jvm.ClassFile.FieldType.int) [] 2 26 0 0 [.ref (ad 13 0), .int (nI a0), .int (nI b0)] σ (fun o σ' _ => o = .returned (some (.int (mst M a a0 dc))) ∧ Lay ar ad rg pl V (mu M 27 0 (nI 0)) σ') := by
  refine mp_in (Nat.le_of_ble_eq_true rfl) ?_
  intro p e R s m below meth c x hfr hlo hce hsl hr hlk hin hex hG hB ls H hH0 hH hS hl
  have hl : lv_has ls 4 [(0, .ref (ad 13 0)), (1, .int (nI a0)), (2, .int (nI b0))] := hl
  refine lv_aload_n x.1 x.2.1 dd_md_state_0 rfl (lv_at hl 0 rfl) ?_
  refine lv_iload_n x.1 x.2.1 dd_md_state_1 rfl (lv_at hl 1 rfl) ?_
  refine mp_call x (wt_mv base) hG hB hl.1 (mp_invS (av := [.int (nI a0)]) x mn_md_isShop mc_md_isShop (Or.inl ww_822) ww_823 ww_60 rfl dd_md_state_2) (kk_M_isShop_ok (in_ok (by omega) (by decide))) (Nat.le_trans (Nat.le_of_ble_eq_true rfl) hfr) (Nat.le_trans (Nat.le_of_ble_eq_true rfl) hlo) (Nat.le_trans (Nat.le_of_ble_eq_true rfl) hce) (Nat.le_trans (Nat.le_of_ble_eq_true rfl) hsl) hH hS (fun v σa t0 H locs hp939 ht0 hvm hzz hH hS => ?_) (fun _ _ _ _ _ hz _ _ _ _ _ => by cases hz.1)
  obtain ⟨ho, hσ⟩ := hp939
  cases ho
  rw [hσ] at hH
  refine W.eq (g2 := F0 m 5 ls [.int (nI 1), .ref (ad 13 0)]) rfl ?_
  refine lv_if_eq (tgt := 15) x.1 x.2.1 dd_md_state_5 (by decide) (fun c940 => absurd c940 (by decide +kernel)) (fun c940 => ?_)
  refine lv_iload_n x.1 x.2.1 dd_md_state_8 rfl (lv_at hl 2 rfl) ?_
  refine mp_call x (wt_mv base) hG hB hl.1 (mp_invS (av := [.int (nI b0)]) x mn_md_isPrescription mc_md_isPrescription (Or.inl ww_808) ww_809 ww_60 rfl dd_md_state_9) (kk_M_isPrescription_ok (in_ok (by omega) (by decide))) (Nat.le_trans (Nat.le_of_ble_eq_true rfl) hfr) (Nat.le_trans (Nat.le_of_ble_eq_true rfl) hlo) (Nat.le_trans (Nat.le_of_ble_eq_true rfl) hce) (Nat.le_trans (Nat.le_of_ble_eq_true rfl) hsl) hH hS (fun v σa t0 H locs hp941 ht0 hvm hzz hH hS => ?_) (fun _ _ _ _ _ hz _ _ _ _ _ => by cases hz.1)
  obtain ⟨ho, hσ⟩ := hp941
  cases ho
  rw [hσ] at hH
  refine W.eq (g2 := F0 m 12 ls [.int (nI 1), .ref (ad 13 0)]) rfl ?_
  refine lv_if_ne (tgt := 19) x.1 x.2.1 dd_md_state_12 (by decide) (fun c942 => ?_) (fun c942 => absurd c942 (by decide +kernel))
  refine lv_iconst (v := nI 0) x.1 x.2.1 dd_md_state_19 (by decide +kernel) ?_
  refine lv_iconst (v := nI 1) x.1 x.2.1 dd_md_state_20 (by decide +kernel) ?_
  refine mp_call x (wt_mv base) hG hB hl.1 (mp_invV (av := [.int (nI 0), .int (nI 1)]) x hH (la13 hL) rfl rfl mn_md_fails mc_md_fails (Or.inl ww_814) ww_816 ww_41 rfl dd_md_state_21) (kk_M_fails0 hL) (Nat.le_trans (Nat.le_of_ble_eq_true rfl) hfr) (Nat.le_trans (Nat.le_of_ble_eq_true rfl) hlo) (Nat.le_trans (Nat.le_of_ble_eq_true rfl) hce) (Nat.le_trans (Nat.le_of_ble_eq_true rfl) hsl) hH hS (fun v σa t0 H locs hp943 ht0 hvm hzz hH hS => ?_) (fun _ _ _ _ _ hz _ _ _ _ _ => by cases hz.1)
  obtain ⟨ho, hL⟩ := hp943
  cases ho
  refine W.eq (g2 := F0 m 24 ls [.int (nI 0)]) rfl ?_
  refine lv_if_eq (tgt := 29) x.1 x.2.1 dd_md_state_24 (by decide) (fun c944 => ?_) (fun c944 => absurd (by decide +kernel) c944)
  refine lv_iload_n x.1 x.2.1 dd_md_state_29 rfl (lv_at hl 1 rfl) ?_
  refine lv_iload_n x.1 x.2.1 dd_md_state_30 rfl (lv_at hl 2 rfl) ?_
  refine mp_call x (wt_mv base) hG hB hl.1 (mp_invS (av := [.int (nI a0), .int (nI b0)]) x mn_md_at mc_md_at (Or.inl ww_826) ww_827 ww_60 rfl dd_md_state_31) (kk_M_at (a0 := a0) (b0 := b0)) (Nat.le_trans (Nat.le_of_ble_eq_true rfl) hfr) (Nat.le_trans (Nat.le_of_ble_eq_true rfl) hlo) (Nat.le_trans (Nat.le_of_ble_eq_true rfl) hce) (Nat.le_trans (Nat.le_of_ble_eq_true rfl) hsl) hH hS (fun v σa t0 H locs hp945 ht0 hvm hzz hH hS => ?_) (fun _ _ _ _ _ hz _ _ _ _ _ => by cases hz.1)
  obtain ⟨ho, hσ⟩ := hp945
  cases ho
  rw [hσ] at hH
  refine W.eq (g2 := F0 m 34 ls [.int (nI (20 * a0 + b0))]) rfl ?_
  refine mn_top (w := nI a) (congrArg nI hA) ?_
  refine lv_istore_n (lv' := [(3, .int (nI a)), (0, .ref (ad 13 0)), (1, .int (nI a0)), (2, .int (nI b0))]) x.1 x.2.1 dd_md_state_34 rfl hl (by decide) rfl (fun ls hl => ?_)
  refine lv_aload_n x.1 x.2.1 dd_md_state_35 rfl (lv_at hl 1 rfl) ?_
  refine mp_get x hH (la13 hL) fg_md_44 rfl dd_md_state_36 ?_
  refine lv_iload_n x.1 x.2.1 dd_md_state_39 rfl (lv_at hl 0 rfl) ?_
  refine ka_ld x hH hL 11 (j := a) (by decide) (by decide) (show a < 500 from (by omega)) (by decide) dd_md_state_40 ?_
  refine mn_top (w := M 11 a) (mu_k (by decide)) ?_
  refine lv_if_le (tgt := 46) x.1 x.2.1 dd_md_state_41 (by decide) (fun c946 => ?_) (fun c946 => ?_)
  · refine lv_aload_n x.1 x.2.1 dd_md_state_46 rfl (lv_at hl 1 rfl) ?_
    refine mp_get x hH (la13 hL) fg_md_20 rfl dd_md_state_47 ?_
    refine lv_iload_n x.1 x.2.1 dd_md_state_50 rfl (lv_at hl 0 rfl) ?_
    refine ka_ld x hH hL 3 (j := a) (by decide) (by decide) (show a < 500 from (by omega)) (by decide) dd_md_state_51 ?_
    refine mn_top (w := nI dc) ((mu_k (by decide)).trans (hdc)) ?_
    refine lv_if_ne (tgt := 59) x.1 x.2.1 dd_md_state_52 (by decide) (fun c947 => ?_) (fun c947 => ?_)
    · have c947 : ¬ (dc = 0) := fun h => c947 ((cv_eq (a := dc) (b := 0) (by omega) (by omega)).mpr h)
      refine lv_aload_n x.1 x.2.1 dd_md_state_59 rfl (lv_at hl 1 rfl) ?_
      refine mp_get x hH (la13 hL) fg_md_38 rfl dd_md_state_60 ?_
      refine lv_bipush (v := nI 12) x.1 x.2.1 dd_md_state_63 (by decide +kernel) ?_
      refine lv_iload_n x.1 x.2.1 dd_md_state_65 rfl (lv_at hl 0 rfl) ?_
      refine lv_imul x.1 x.2.1 dd_md_state_66 ?_
      refine mn_top (w := nI (12 * a)) (pk_mul _ _) ?_
      refine lv_aload_n x.1 x.2.1 dd_md_state_67 rfl (lv_at hl 1 rfl) ?_
      refine mp_get x hH (la13 hL) fg_md_20 rfl dd_md_state_68 ?_
      refine lv_iload_n x.1 x.2.1 dd_md_state_71 rfl (lv_at hl 0 rfl) ?_
      refine ka_ld x hH hL 3 (j := a) (by decide) (by decide) (show a < 500 from (by omega)) (by decide) dd_md_state_72 ?_
      refine mn_top (w := nI dc) ((mu_k (by decide)).trans (hdc)) ?_
      refine lv_iadd x.1 x.2.1 dd_md_state_73 ?_
      refine mn_top (w := nI (12 * a + dc)) (nI_add _ _) ?_
      refine lv_iconst (v := nI 1) x.1 x.2.1 dd_md_state_74 (by decide +kernel) ?_
      refine lv_isub x.1 x.2.1 dd_md_state_75 ?_
      refine mn_top (w := nI (12 * a + dc - 1)) (pk_sub (by omega)) ?_
      refine ka_ld x hH hL 9 (j := 12 * a + dc - 1) (by decide) (by decide) (show 12 * a + dc - 1 < 6000 from (by omega)) (by decide) dd_md_state_76 ?_
      refine mn_top (w := M 9 (12 * a + dc - 1)) (mu_k (by decide)) ?_
      refine lv_iload_n x.1 x.2.1 dd_md_state_77 rfl (lv_at hl 2 rfl) ?_
      refine lv_icmp_ne (tgt := 85) x.1 x.2.1 dd_md_state_78 (by decide) (fun c948 => ?_) (fun c948 => ?_)
      · refine lv_iconst (v := nI 3) x.1 x.2.1 dd_md_state_85 (by decide +kernel) ?_
        exact mp_ri x hr hlk (by decide) (by decide) hH hS (fun _ => ⟨(congrArg (fun z => Outcome.returned (some (.int z))) (by rw [mst, if_neg (Int32.not_lt.mpr c946), if_neg c947, if_neg c948])), hL⟩) dd_md_state_86
      · refine lv_iconst (v := nI 2) x.1 x.2.1 dd_md_state_81 (by decide +kernel) ?_
        refine lv_goto (tgt := 86) x.1 x.2.1 dd_md_state_82 (by decide) ?_
        exact mp_ri x hr hlk (by decide) (by decide) hH hS (fun _ => ⟨(congrArg (fun z => Outcome.returned (some (.int z))) (by rw [mst, if_neg (Int32.not_lt.mpr c946), if_neg c947, if_pos c948])), hL⟩) dd_md_state_86
    · have c947 : dc = 0 := (cv_eq (a := dc) (b := 0) (by omega) (by omega)).mp c947
      refine lv_iconst (v := nI 0) x.1 x.2.1 dd_md_state_55 (by decide +kernel) ?_
      refine lv_goto (tgt := 86) x.1 x.2.1 dd_md_state_56 (by decide) ?_
      exact mp_ri x hr hlk (by decide) (by decide) hH hS (fun _ => ⟨(congrArg (fun z => Outcome.returned (some (.int z))) (by rw [mst, if_neg (Int32.not_lt.mpr c946), if_pos c947])), hL⟩) dd_md_state_86
  · refine lv_iconst (v := nI 1) x.1 x.2.1 dd_md_state_44 (by decide +kernel) ?_
    exact mp_ri x hr hlk (by decide) (by decide) hH hS (fun _ => ⟨(congrArg (fun z => Outcome.returned (some (.int z))) (by rw [mst, if_pos (Int32.not_le.mp c946)])), hL⟩) dd_md_state_45
set_option maxRecDepth 100000 in
set_option maxHeartbeats 4000000 in
theorem kk_MX_granted_00 {l : Launch} {D : va_G} {ar : Nat → ClassId} {base : Nat} {σ : mp_M} {ad : Nat → Nat → Nat} {rg : Nat → Bool} {pl : Nat → Nat} {V M : fV} {a0 b0 a j dc : Nat} (hL : Lay ar ad rg pl V M σ) (hA : 20 * a0 + b0 = a) (ha : a0 < 25) (hb : b0 < 20) (hj : 1 ≤ j) (hj2 : j ≤ 12) (hdc : M 3 a = nI dc) (hdl : dc ≤ 12)  : CN l D ar base yy_md_granted prog_9_method_31_code 6 (Option.some Jvm.ClassFile.FieldType.int) [] 2 26 0 0 [.ref (ad 13 0), .int (nI a0), .int (nI b0), .int (nI j), .int (nI 0)] σ (fun o σ' _ => o = .returned (some (.int (if dc < j then (-1) else M 9 (12 * a + j - 1)))) ∧ Lay ar ad rg pl V (mu M 27 0 (nI 0)) σ') := by
  refine mp_in (Nat.le_of_ble_eq_true rfl) ?_
  intro p e R s m below meth c x hfr hlo hce hsl hr hlk hin hex hG hB ls H hH0 hH hS hl
  have hl : lv_has ls 6 [(0, .ref (ad 13 0)), (1, .int (nI a0)), (2, .int (nI b0)), (3, .int (nI j)), (4, .int (nI 0))] := hl
  refine lv_aload_n x.1 x.2.1 dd_md_granted_0 rfl (lv_at hl 0 rfl) ?_
  refine lv_iload_n x.1 x.2.1 dd_md_granted_1 rfl (lv_at hl 1 rfl) ?_
  refine mp_call x (wt_mv base) hG hB hl.1 (mp_invS (av := [.int (nI a0)]) x mn_md_isShop mc_md_isShop (Or.inl ww_822) ww_823 ww_60 rfl dd_md_granted_2) (kk_M_isShop_ok (in_ok (by omega) (by decide))) (Nat.le_trans (Nat.le_of_ble_eq_true rfl) hfr) (Nat.le_trans (Nat.le_of_ble_eq_true rfl) hlo) (Nat.le_trans (Nat.le_of_ble_eq_true rfl) hce) (Nat.le_trans (Nat.le_of_ble_eq_true rfl) hsl) hH hS (fun v σa t0 H locs hp949 ht0 hvm hzz hH hS => ?_) (fun _ _ _ _ _ hz _ _ _ _ _ => by cases hz.1)
  obtain ⟨ho, hσ⟩ := hp949
  cases ho
  rw [hσ] at hH
  refine W.eq (g2 := F0 m 5 ls [.int (nI 1), .ref (ad 13 0)]) rfl ?_
  refine lv_if_eq (tgt := 26) x.1 x.2.1 dd_md_granted_5 (by decide) (fun c950 => absurd c950 (by decide +kernel)) (fun c950 => ?_)
  refine lv_iload_n x.1 x.2.1 dd_md_granted_8 rfl (lv_at hl 2 rfl) ?_
  refine mp_call x (wt_mv base) hG hB hl.1 (mp_invS (av := [.int (nI b0)]) x mn_md_isPrescription mc_md_isPrescription (Or.inl ww_808) ww_809 ww_60 rfl dd_md_granted_9) (kk_M_isPrescription_ok (in_ok (by omega) (by decide))) (Nat.le_trans (Nat.le_of_ble_eq_true rfl) hfr) (Nat.le_trans (Nat.le_of_ble_eq_true rfl) hlo) (Nat.le_trans (Nat.le_of_ble_eq_true rfl) hce) (Nat.le_trans (Nat.le_of_ble_eq_true rfl) hsl) hH hS (fun v σa t0 H locs hp951 ht0 hvm hzz hH hS => ?_) (fun _ _ _ _ _ hz _ _ _ _ _ => by cases hz.1)
  obtain ⟨ho, hσ⟩ := hp951
  cases ho
  rw [hσ] at hH
  refine W.eq (g2 := F0 m 12 ls [.int (nI 1), .ref (ad 13 0)]) rfl ?_
  refine lv_if_eq (tgt := 26) x.1 x.2.1 dd_md_granted_12 (by decide) (fun c952 => absurd c952 (by decide +kernel)) (fun c952 => ?_)
  refine lv_iload_n x.1 x.2.1 dd_md_granted_15 rfl (lv_at hl 3 rfl) ?_
  refine lv_iconst (v := nI 1) x.1 x.2.1 dd_md_granted_16 (by decide +kernel) ?_
  refine lv_isub x.1 x.2.1 dd_md_granted_17 ?_
  refine mn_top (w := nI (j - 1)) (pk_sub (by omega)) ?_
  refine lv_bipush (v := nI 12) x.1 x.2.1 dd_md_granted_18 (by decide +kernel) ?_
  refine mp_call x (wt_mv base) hG hB hl.1 (mp_invS (av := [.int (nI (j - 1)), .int (nI 12)]) x mn_md_within mc_md_within (Or.inl ww_811) ww_812 ww_60 rfl dd_md_granted_20) (kk_M_within_ok (in_ok (by omega) (by decide))) (Nat.le_trans (Nat.le_of_ble_eq_true rfl) hfr) (Nat.le_trans (Nat.le_of_ble_eq_true rfl) hlo) (Nat.le_trans (Nat.le_of_ble_eq_true rfl) hce) (Nat.le_trans (Nat.le_of_ble_eq_true rfl) hsl) hH hS (fun v σa t0 H locs hp953 ht0 hvm hzz hH hS => ?_) (fun _ _ _ _ _ hz _ _ _ _ _ => by cases hz.1)
  obtain ⟨ho, hσ⟩ := hp953
  cases ho
  rw [hσ] at hH
  refine W.eq (g2 := F0 m 23 ls [.int (nI 1), .ref (ad 13 0)]) rfl ?_
  refine lv_if_ne (tgt := 30) x.1 x.2.1 dd_md_granted_23 (by decide) (fun c954 => ?_) (fun c954 => absurd c954 (by decide +kernel))
  refine lv_iconst (v := nI 0) x.1 x.2.1 dd_md_granted_30 (by decide +kernel) ?_
  refine lv_iconst (v := nI 1) x.1 x.2.1 dd_md_granted_31 (by decide +kernel) ?_
  refine mp_call x (wt_mv base) hG hB hl.1 (mp_invV (av := [.int (nI 0), .int (nI 1)]) x hH (la13 hL) rfl rfl mn_md_fails mc_md_fails (Or.inl ww_814) ww_816 ww_41 rfl dd_md_granted_32) (kk_M_fails0 hL) (Nat.le_trans (Nat.le_of_ble_eq_true rfl) hfr) (Nat.le_trans (Nat.le_of_ble_eq_true rfl) hlo) (Nat.le_trans (Nat.le_of_ble_eq_true rfl) hce) (Nat.le_trans (Nat.le_of_ble_eq_true rfl) hsl) hH hS (fun v σa t0 H locs hp955 ht0 hvm hzz hH hS => ?_) (fun _ _ _ _ _ hz _ _ _ _ _ => by cases hz.1)
  obtain ⟨ho, hL⟩ := hp955
  cases ho
  refine W.eq (g2 := F0 m 35 ls [.int (nI 0)]) rfl ?_
  refine lv_if_eq (tgt := 40) x.1 x.2.1 dd_md_granted_35 (by decide) (fun c956 => ?_) (fun c956 => absurd (by decide +kernel) c956)
  refine lv_iload_n x.1 x.2.1 dd_md_granted_40 rfl (lv_at hl 1 rfl) ?_
  refine lv_iload_n x.1 x.2.1 dd_md_granted_41 rfl (lv_at hl 2 rfl) ?_
  refine mp_call x (wt_mv base) hG hB hl.1 (mp_invS (av := [.int (nI a0), .int (nI b0)]) x mn_md_at mc_md_at (Or.inl ww_826) ww_827 ww_60 rfl dd_md_granted_42) (kk_M_at (a0 := a0) (b0 := b0)) (Nat.le_trans (Nat.le_of_ble_eq_true rfl) hfr) (Nat.le_trans (Nat.le_of_ble_eq_true rfl) hlo) (Nat.le_trans (Nat.le_of_ble_eq_true rfl) hce) (Nat.le_trans (Nat.le_of_ble_eq_true rfl) hsl) hH hS (fun v σa t0 H locs hp957 ht0 hvm hzz hH hS => ?_) (fun _ _ _ _ _ hz _ _ _ _ _ => by cases hz.1)
  obtain ⟨ho, hσ⟩ := hp957
  cases ho
  rw [hσ] at hH
  refine W.eq (g2 := F0 m 45 ls [.int (nI (20 * a0 + b0))]) rfl ?_
  refine mn_top (w := nI a) (congrArg nI hA) ?_
  refine lv_istore (lv' := [(5, .int (nI a)), (0, .ref (ad 13 0)), (1, .int (nI a0)), (2, .int (nI b0)), (3, .int (nI j)), (4, .int (nI 0))]) x.1 x.2.1 dd_md_granted_45 hl (by decide) rfl (fun ls hl => ?_)
  refine lv_iload_n x.1 x.2.1 dd_md_granted_47 rfl (lv_at hl 4 rfl) ?_
  refine lv_aload_n x.1 x.2.1 dd_md_granted_48 rfl (lv_at hl 1 rfl) ?_
  refine mp_get x hH (la13 hL) fg_md_20 rfl dd_md_granted_49 ?_
  refine lv_iload x.1 x.2.1 dd_md_granted_52 (lv_at hl 0 rfl) ?_
  refine ka_ld x hH hL 3 (j := a) (by decide) (by decide) (show a < 500 from (by omega)) (by decide) dd_md_granted_54 ?_
  refine mn_top (w := nI dc) ((mu_k (by decide)).trans (hdc)) ?_
  refine lv_icmp_le (tgt := 62) x.1 x.2.1 dd_md_granted_55 (by decide) (fun c958 => ?_) (fun c958 => ?_)
  · have c958 : j ≤ dc := (cv_le (a := j) (b := dc) (by omega) (by omega)).mp c958
    refine lv_iload x.1 x.2.1 dd_md_granted_62 (lv_at hl 5 rfl) ?_
    refine lv_if_eq (tgt := 84) x.1 x.2.1 dd_md_granted_64 (by decide) (fun c959 => ?_) (fun c959 => absurd (by decide +kernel) c959)
    refine lv_aload_n x.1 x.2.1 dd_md_granted_84 rfl (lv_at hl 1 rfl) ?_
    refine mp_get x hH (la13 hL) fg_md_38 rfl dd_md_granted_85 ?_
    refine lv_bipush (v := nI 12) x.1 x.2.1 dd_md_granted_88 (by decide +kernel) ?_
    refine lv_iload x.1 x.2.1 dd_md_granted_90 (lv_at hl 0 rfl) ?_
    refine lv_imul x.1 x.2.1 dd_md_granted_92 ?_
    refine mn_top (w := nI (12 * a)) (pk_mul _ _) ?_
    refine lv_iload_n x.1 x.2.1 dd_md_granted_93 rfl (lv_at hl 4 rfl) ?_
    refine lv_iadd x.1 x.2.1 dd_md_granted_94 ?_
    refine mn_top (w := nI (12 * a + j)) (nI_add _ _) ?_
    refine lv_iconst (v := nI 1) x.1 x.2.1 dd_md_granted_95 (by decide +kernel) ?_
    refine lv_isub x.1 x.2.1 dd_md_granted_96 ?_
    refine mn_top (w := nI (12 * a + j - 1)) (pk_sub (by omega)) ?_
    refine ka_ld x hH hL 9 (j := 12 * a + j - 1) (by decide) (by decide) (show 12 * a + j - 1 < 6000 from (by omega)) (by decide) dd_md_granted_97 ?_
    refine mn_top (w := M 9 (12 * a + j - 1)) (mu_k (by decide)) ?_
    exact mp_ri x hr hlk (by decide) (by decide) hH hS (fun _ => ⟨(congrArg (fun z => Outcome.returned (some (.int z))) ((if_neg (by omega)).symm)), hL⟩) dd_md_granted_98
  · have c958 : ¬ (j ≤ dc) := fun h => c958 ((cv_le (a := j) (b := dc) (by omega) (by omega)).mpr h)
    refine lv_iconst (v := (-1)) x.1 x.2.1 dd_md_granted_58 (by decide +kernel) ?_
    refine lv_goto (tgt := 98) x.1 x.2.1 dd_md_granted_59 (by decide) ?_
    exact mp_ri x hr hlk (by decide) (by decide) hH hS (fun _ => ⟨(congrArg (fun z => Outcome.returned (some (.int z))) ((if_pos (by omega)).symm)), hL⟩) dd_md_granted_98
set_option maxRecDepth 100000 in
set_option maxHeartbeats 4000000 in
theorem kk_MX_granted_01 {l : Launch} {D : va_G} {ar : Nat → ClassId} {base : Nat} {σ : mp_M} {ad : Nat → Nat → Nat} {rg : Nat → Bool} {pl : Nat → Nat} {V M : fV} {a0 b0 a j dc : Nat} (hL : Lay ar ad rg pl V M σ) (hA : 20 * a0 + b0 = a) (ha : a0 < 25) (hb : b0 < 20) (hj : 1 ≤ j) (hj2 : j ≤ 12) (hdc : M 3 a = nI dc) (hdl : dc ≤ 12)  : CN l D ar base yy_md_granted prog_9_method_31_code 6 (Option.some Jvm.ClassFile.FieldType.int) [] 2 26 0 0 [.ref (ad 13 0), .int (nI a0), .int (nI b0), .int (nI j), .int (nI 1)] σ (fun o σ' _ => o = .returned (some (.int (if dc < j then (-1) else M 10 (12 * a + j - 1)))) ∧ Lay ar ad rg pl V (mu M 27 0 (nI 0)) σ') := by
  refine mp_in (Nat.le_of_ble_eq_true rfl) ?_
  intro p e R s m below meth c x hfr hlo hce hsl hr hlk hin hex hG hB ls H hH0 hH hS hl
  have hl : lv_has ls 6 [(0, .ref (ad 13 0)), (1, .int (nI a0)), (2, .int (nI b0)), (3, .int (nI j)), (4, .int (nI 1))] := hl
  refine lv_aload_n x.1 x.2.1 dd_md_granted_0 rfl (lv_at hl 0 rfl) ?_
  refine lv_iload_n x.1 x.2.1 dd_md_granted_1 rfl (lv_at hl 1 rfl) ?_
  refine mp_call x (wt_mv base) hG hB hl.1 (mp_invS (av := [.int (nI a0)]) x mn_md_isShop mc_md_isShop (Or.inl ww_822) ww_823 ww_60 rfl dd_md_granted_2) (kk_M_isShop_ok (in_ok (by omega) (by decide))) (Nat.le_trans (Nat.le_of_ble_eq_true rfl) hfr) (Nat.le_trans (Nat.le_of_ble_eq_true rfl) hlo) (Nat.le_trans (Nat.le_of_ble_eq_true rfl) hce) (Nat.le_trans (Nat.le_of_ble_eq_true rfl) hsl) hH hS (fun v σa t0 H locs hp960 ht0 hvm hzz hH hS => ?_) (fun _ _ _ _ _ hz _ _ _ _ _ => by cases hz.1)
  obtain ⟨ho, hσ⟩ := hp960
  cases ho
  rw [hσ] at hH
  refine W.eq (g2 := F0 m 5 ls [.int (nI 1), .ref (ad 13 0)]) rfl ?_
  refine lv_if_eq (tgt := 26) x.1 x.2.1 dd_md_granted_5 (by decide) (fun c961 => absurd c961 (by decide +kernel)) (fun c961 => ?_)
  refine lv_iload_n x.1 x.2.1 dd_md_granted_8 rfl (lv_at hl 2 rfl) ?_
  refine mp_call x (wt_mv base) hG hB hl.1 (mp_invS (av := [.int (nI b0)]) x mn_md_isPrescription mc_md_isPrescription (Or.inl ww_808) ww_809 ww_60 rfl dd_md_granted_9) (kk_M_isPrescription_ok (in_ok (by omega) (by decide))) (Nat.le_trans (Nat.le_of_ble_eq_true rfl) hfr) (Nat.le_trans (Nat.le_of_ble_eq_true rfl) hlo) (Nat.le_trans (Nat.le_of_ble_eq_true rfl) hce) (Nat.le_trans (Nat.le_of_ble_eq_true rfl) hsl) hH hS (fun v σa t0 H locs hp962 ht0 hvm hzz hH hS => ?_) (fun _ _ _ _ _ hz _ _ _ _ _ => by cases hz.1)
  obtain ⟨ho, hσ⟩ := hp962
  cases ho
  rw [hσ] at hH
  refine W.eq (g2 := F0 m 12 ls [.int (nI 1), .ref (ad 13 0)]) rfl ?_
  refine lv_if_eq (tgt := 26) x.1 x.2.1 dd_md_granted_12 (by decide) (fun c963 => absurd c963 (by decide +kernel)) (fun c963 => ?_)
  refine lv_iload_n x.1 x.2.1 dd_md_granted_15 rfl (lv_at hl 3 rfl) ?_
  refine lv_iconst (v := nI 1) x.1 x.2.1 dd_md_granted_16 (by decide +kernel) ?_
  refine lv_isub x.1 x.2.1 dd_md_granted_17 ?_
  refine mn_top (w := nI (j - 1)) (pk_sub (by omega)) ?_
  refine lv_bipush (v := nI 12) x.1 x.2.1 dd_md_granted_18 (by decide +kernel) ?_
  refine mp_call x (wt_mv base) hG hB hl.1 (mp_invS (av := [.int (nI (j - 1)), .int (nI 12)]) x mn_md_within mc_md_within (Or.inl ww_811) ww_812 ww_60 rfl dd_md_granted_20) (kk_M_within_ok (in_ok (by omega) (by decide))) (Nat.le_trans (Nat.le_of_ble_eq_true rfl) hfr) (Nat.le_trans (Nat.le_of_ble_eq_true rfl) hlo) (Nat.le_trans (Nat.le_of_ble_eq_true rfl) hce) (Nat.le_trans (Nat.le_of_ble_eq_true rfl) hsl) hH hS (fun v σa t0 H locs hp964 ht0 hvm hzz hH hS => ?_) (fun _ _ _ _ _ hz _ _ _ _ _ => by cases hz.1)
  obtain ⟨ho, hσ⟩ := hp964
  cases ho
  rw [hσ] at hH
  refine W.eq (g2 := F0 m 23 ls [.int (nI 1), .ref (ad 13 0)]) rfl ?_
  refine lv_if_ne (tgt := 30) x.1 x.2.1 dd_md_granted_23 (by decide) (fun c965 => ?_) (fun c965 => absurd c965 (by decide +kernel))
  refine lv_iconst (v := nI 0) x.1 x.2.1 dd_md_granted_30 (by decide +kernel) ?_
  refine lv_iconst (v := nI 1) x.1 x.2.1 dd_md_granted_31 (by decide +kernel) ?_
  refine mp_call x (wt_mv base) hG hB hl.1 (mp_invV (av := [.int (nI 0), .int (nI 1)]) x hH (la13 hL) rfl rfl mn_md_fails mc_md_fails (Or.inl ww_814) ww_816 ww_41 rfl dd_md_granted_32) (kk_M_fails0 hL) (Nat.le_trans (Nat.le_of_ble_eq_true rfl) hfr) (Nat.le_trans (Nat.le_of_ble_eq_true rfl) hlo) (Nat.le_trans (Nat.le_of_ble_eq_true rfl) hce) (Nat.le_trans (Nat.le_of_ble_eq_true rfl) hsl) hH hS (fun v σa t0 H locs hp966 ht0 hvm hzz hH hS => ?_) (fun _ _ _ _ _ hz _ _ _ _ _ => by cases hz.1)
  obtain ⟨ho, hL⟩ := hp966
  cases ho
  refine W.eq (g2 := F0 m 35 ls [.int (nI 0)]) rfl ?_
  refine lv_if_eq (tgt := 40) x.1 x.2.1 dd_md_granted_35 (by decide) (fun c967 => ?_) (fun c967 => absurd (by decide +kernel) c967)
  refine lv_iload_n x.1 x.2.1 dd_md_granted_40 rfl (lv_at hl 1 rfl) ?_
  refine lv_iload_n x.1 x.2.1 dd_md_granted_41 rfl (lv_at hl 2 rfl) ?_
  refine mp_call x (wt_mv base) hG hB hl.1 (mp_invS (av := [.int (nI a0), .int (nI b0)]) x mn_md_at mc_md_at (Or.inl ww_826) ww_827 ww_60 rfl dd_md_granted_42) (kk_M_at (a0 := a0) (b0 := b0)) (Nat.le_trans (Nat.le_of_ble_eq_true rfl) hfr) (Nat.le_trans (Nat.le_of_ble_eq_true rfl) hlo) (Nat.le_trans (Nat.le_of_ble_eq_true rfl) hce) (Nat.le_trans (Nat.le_of_ble_eq_true rfl) hsl) hH hS (fun v σa t0 H locs hp968 ht0 hvm hzz hH hS => ?_) (fun _ _ _ _ _ hz _ _ _ _ _ => by cases hz.1)
  obtain ⟨ho, hσ⟩ := hp968
  cases ho
  rw [hσ] at hH
  refine W.eq (g2 := F0 m 45 ls [.int (nI (20 * a0 + b0))]) rfl ?_
  refine mn_top (w := nI a) (congrArg nI hA) ?_
  refine lv_istore (lv' := [(5, .int (nI a)), (0, .ref (ad 13 0)), (1, .int (nI a0)), (2, .int (nI b0)), (3, .int (nI j)), (4, .int (nI 1))]) x.1 x.2.1 dd_md_granted_45 hl (by decide) rfl (fun ls hl => ?_)
  refine lv_iload_n x.1 x.2.1 dd_md_granted_47 rfl (lv_at hl 4 rfl) ?_
  refine lv_aload_n x.1 x.2.1 dd_md_granted_48 rfl (lv_at hl 1 rfl) ?_
  refine mp_get x hH (la13 hL) fg_md_20 rfl dd_md_granted_49 ?_
  refine lv_iload x.1 x.2.1 dd_md_granted_52 (lv_at hl 0 rfl) ?_
  refine ka_ld x hH hL 3 (j := a) (by decide) (by decide) (show a < 500 from (by omega)) (by decide) dd_md_granted_54 ?_
  refine mn_top (w := nI dc) ((mu_k (by decide)).trans (hdc)) ?_
  refine lv_icmp_le (tgt := 62) x.1 x.2.1 dd_md_granted_55 (by decide) (fun c969 => ?_) (fun c969 => ?_)
  · have c969 : j ≤ dc := (cv_le (a := j) (b := dc) (by omega) (by omega)).mp c969
    refine lv_iload x.1 x.2.1 dd_md_granted_62 (lv_at hl 5 rfl) ?_
    refine lv_if_eq (tgt := 84) x.1 x.2.1 dd_md_granted_64 (by decide) (fun c970 => absurd c970 (by decide +kernel)) (fun c970 => ?_)
    refine lv_aload_n x.1 x.2.1 dd_md_granted_67 rfl (lv_at hl 1 rfl) ?_
    refine mp_get x hH (la13 hL) fg_md_41 rfl dd_md_granted_68 ?_
    refine lv_bipush (v := nI 12) x.1 x.2.1 dd_md_granted_71 (by decide +kernel) ?_
    refine lv_iload x.1 x.2.1 dd_md_granted_73 (lv_at hl 0 rfl) ?_
    refine lv_imul x.1 x.2.1 dd_md_granted_75 ?_
    refine mn_top (w := nI (12 * a)) (pk_mul _ _) ?_
    refine lv_iload_n x.1 x.2.1 dd_md_granted_76 rfl (lv_at hl 4 rfl) ?_
    refine lv_iadd x.1 x.2.1 dd_md_granted_77 ?_
    refine mn_top (w := nI (12 * a + j)) (nI_add _ _) ?_
    refine lv_iconst (v := nI 1) x.1 x.2.1 dd_md_granted_78 (by decide +kernel) ?_
    refine lv_isub x.1 x.2.1 dd_md_granted_79 ?_
    refine mn_top (w := nI (12 * a + j - 1)) (pk_sub (by omega)) ?_
    refine ka_ld x hH hL 10 (j := 12 * a + j - 1) (by decide) (by decide) (show 12 * a + j - 1 < 6000 from (by omega)) (by decide) dd_md_granted_80 ?_
    refine mn_top (w := M 10 (12 * a + j - 1)) (mu_k (by decide)) ?_
    refine lv_goto (tgt := 98) x.1 x.2.1 dd_md_granted_81 (by decide) ?_
    exact mp_ri x hr hlk (by decide) (by decide) hH hS (fun _ => ⟨(congrArg (fun z => Outcome.returned (some (.int z))) ((if_neg (by omega)).symm)), hL⟩) dd_md_granted_98
  · have c969 : ¬ (j ≤ dc) := fun h => c969 ((cv_le (a := j) (b := dc) (by omega) (by omega)).mpr h)
    refine lv_iconst (v := (-1)) x.1 x.2.1 dd_md_granted_58 (by decide +kernel) ?_
    refine lv_goto (tgt := 98) x.1 x.2.1 dd_md_granted_59 (by decide) ?_
    exact mp_ri x hr hlk (by decide) (by decide) hH hS (fun _ => ⟨(congrArg (fun z => Outcome.returned (some (.int z))) ((if_pos (by omega)).symm)), hL⟩) dd_md_granted_98
def mbc (v : Int32) : Nat → Int32
  | 0 => nI 0
  | k + 1 => mbc v k + ((v >>> (nI k &&& 31)) &&& nI 1)
def mkp (M : fV) (a j : Nat) : Int32 := if j = 0 then M 4 a else if j = 1 then M 5 a else if j = 2 then (if 0 < M 5 a then M 6 a else (-1)) else if j = 3 then (if 0 < M 5 a then M 7 a else (-1)) else if j = 4 then M 8 a else if j = 5 then M 3 a else if j = 6 then M 14 a else if j = 7 then M 15 a else mbc (M 16 a) 25
theorem mkp_2n {M : fV} {a : Nat} (h : M 5 a ≤ 0) : (-1) = mkp M a 2 := (if_neg (Int32.not_lt.mpr h)).symm
theorem mkp_2p {M : fV} {a : Nat} (h : ¬ M 5 a ≤ 0) : M 6 a = mkp M a 2 := (if_pos (Int32.not_le.mp h)).symm
theorem mkp_3n {M : fV} {a : Nat} (h : M 5 a ≤ 0) : (-1) = mkp M a 3 := (if_neg (Int32.not_lt.mpr h)).symm
theorem mkp_3p {M : fV} {a : Nat} (h : ¬ M 5 a ≤ 0) : M 7 a = mkp M a 3 := (if_pos (Int32.not_le.mp h)).symm
set_option maxRecDepth 100000 in
set_option maxHeartbeats 4000000 in
theorem kk_MX_kept_0 {l : Launch} {D : va_G} {ar : Nat → ClassId} {base : Nat} {σ : mp_M} {ad : Nat → Nat → Nat} {rg : Nat → Bool} {pl : Nat → Nat} {V M : fV} {a0 b0 a j : Nat} (hL : Lay ar ad rg pl V M σ) (hA : 20 * a0 + b0 = a) (ha : a0 < 25) (hb : b0 < 20) (hj : j < 9) : CN l D ar base yy_md_kept prog_9_method_32_code 7 (Option.some Jvm.ClassFile.FieldType.int) [] 2 26 0 0 [.ref (ad 13 0), .int (nI a0), .int (nI b0), .int (nI j)] σ (fun o σ' _ => o = .returned (some (.int (mkp M a j))) ∧ Lay ar ad rg pl V (mu M 27 0 (nI 0)) σ') := by
  refine mp_in (Nat.le_of_ble_eq_true rfl) ?_
  intro p e R s m below meth c x hfr hlo hce hsl hr hlk hin hex hG hB ls H hH0 hH hS hl
  have hl : lv_has ls 7 [(0, .ref (ad 13 0)), (1, .int (nI a0)), (2, .int (nI b0)), (3, .int (nI j))] := hl
  refine lv_aload_n x.1 x.2.1 dd_md_kept_0 rfl (lv_at hl 0 rfl) ?_
  refine lv_iload_n x.1 x.2.1 dd_md_kept_1 rfl (lv_at hl 1 rfl) ?_
  refine mp_call x (wt_mv base) hG hB hl.1 (mp_invS (av := [.int (nI a0)]) x mn_md_isShop mc_md_isShop (Or.inl ww_822) ww_823 ww_60 rfl dd_md_kept_2) (kk_M_isShop_ok (in_ok (by omega) (by decide))) (Nat.le_trans (Nat.le_of_ble_eq_true rfl) hfr) (Nat.le_trans (Nat.le_of_ble_eq_true rfl) hlo) (Nat.le_trans (Nat.le_of_ble_eq_true rfl) hce) (Nat.le_trans (Nat.le_of_ble_eq_true rfl) hsl) hH hS (fun v σa t0 H locs hp971 ht0 hvm hzz hH hS => ?_) (fun _ _ _ _ _ hz _ _ _ _ _ => by cases hz.1)
  obtain ⟨ho, hσ⟩ := hp971
  cases ho
  rw [hσ] at hH
  refine W.eq (g2 := F0 m 5 ls [.int (nI 1), .ref (ad 13 0)]) rfl ?_
  refine lv_if_eq (tgt := 24) x.1 x.2.1 dd_md_kept_5 (by decide) (fun c972 => absurd c972 (by decide +kernel)) (fun c972 => ?_)
  refine lv_iload_n x.1 x.2.1 dd_md_kept_8 rfl (lv_at hl 2 rfl) ?_
  refine mp_call x (wt_mv base) hG hB hl.1 (mp_invS (av := [.int (nI b0)]) x mn_md_isPrescription mc_md_isPrescription (Or.inl ww_808) ww_809 ww_60 rfl dd_md_kept_9) (kk_M_isPrescription_ok (in_ok (by omega) (by decide))) (Nat.le_trans (Nat.le_of_ble_eq_true rfl) hfr) (Nat.le_trans (Nat.le_of_ble_eq_true rfl) hlo) (Nat.le_trans (Nat.le_of_ble_eq_true rfl) hce) (Nat.le_trans (Nat.le_of_ble_eq_true rfl) hsl) hH hS (fun v σa t0 H locs hp973 ht0 hvm hzz hH hS => ?_) (fun _ _ _ _ _ hz _ _ _ _ _ => by cases hz.1)
  obtain ⟨ho, hσ⟩ := hp973
  cases ho
  rw [hσ] at hH
  refine W.eq (g2 := F0 m 12 ls [.int (nI 1), .ref (ad 13 0)]) rfl ?_
  refine lv_if_eq (tgt := 24) x.1 x.2.1 dd_md_kept_12 (by decide) (fun c974 => absurd c974 (by decide +kernel)) (fun c974 => ?_)
  refine lv_iload_n x.1 x.2.1 dd_md_kept_15 rfl (lv_at hl 3 rfl) ?_
  refine lv_bipush (v := nI 9) x.1 x.2.1 dd_md_kept_16 (by decide +kernel) ?_
  refine mp_call x (wt_mv base) hG hB hl.1 (mp_invS (av := [.int (nI j), .int (nI 9)]) x mn_md_within mc_md_within (Or.inl ww_811) ww_812 ww_60 rfl dd_md_kept_18) (kk_M_within_ok (in_ok (by omega) (by decide))) (Nat.le_trans (Nat.le_of_ble_eq_true rfl) hfr) (Nat.le_trans (Nat.le_of_ble_eq_true rfl) hlo) (Nat.le_trans (Nat.le_of_ble_eq_true rfl) hce) (Nat.le_trans (Nat.le_of_ble_eq_true rfl) hsl) hH hS (fun v σa t0 H locs hp975 ht0 hvm hzz hH hS => ?_) (fun _ _ _ _ _ hz _ _ _ _ _ => by cases hz.1)
  obtain ⟨ho, hσ⟩ := hp975
  cases ho
  rw [hσ] at hH
  refine W.eq (g2 := F0 m 21 ls [.int (nI 1), .ref (ad 13 0)]) rfl ?_
  refine lv_if_ne (tgt := 28) x.1 x.2.1 dd_md_kept_21 (by decide) (fun c976 => ?_) (fun c976 => absurd c976 (by decide +kernel))
  refine lv_iconst (v := nI 0) x.1 x.2.1 dd_md_kept_28 (by decide +kernel) ?_
  refine lv_iconst (v := nI 1) x.1 x.2.1 dd_md_kept_29 (by decide +kernel) ?_
  refine mp_call x (wt_mv base) hG hB hl.1 (mp_invV (av := [.int (nI 0), .int (nI 1)]) x hH (la13 hL) rfl rfl mn_md_fails mc_md_fails (Or.inl ww_814) ww_816 ww_41 rfl dd_md_kept_30) (kk_M_fails0 hL) (Nat.le_trans (Nat.le_of_ble_eq_true rfl) hfr) (Nat.le_trans (Nat.le_of_ble_eq_true rfl) hlo) (Nat.le_trans (Nat.le_of_ble_eq_true rfl) hce) (Nat.le_trans (Nat.le_of_ble_eq_true rfl) hsl) hH hS (fun v σa t0 H locs hp977 ht0 hvm hzz hH hS => ?_) (fun _ _ _ _ _ hz _ _ _ _ _ => by cases hz.1)
  obtain ⟨ho, hL⟩ := hp977
  cases ho
  refine W.eq (g2 := F0 m 33 ls [.int (nI 0)]) rfl ?_
  refine lv_if_eq (tgt := 38) x.1 x.2.1 dd_md_kept_33 (by decide) (fun c978 => ?_) (fun c978 => absurd (by decide +kernel) c978)
  refine lv_iload_n x.1 x.2.1 dd_md_kept_38 rfl (lv_at hl 1 rfl) ?_
  refine lv_iload_n x.1 x.2.1 dd_md_kept_39 rfl (lv_at hl 2 rfl) ?_
  refine mp_call x (wt_mv base) hG hB hl.1 (mp_invS (av := [.int (nI a0), .int (nI b0)]) x mn_md_at mc_md_at (Or.inl ww_826) ww_827 ww_60 rfl dd_md_kept_40) (kk_M_at (a0 := a0) (b0 := b0)) (Nat.le_trans (Nat.le_of_ble_eq_true rfl) hfr) (Nat.le_trans (Nat.le_of_ble_eq_true rfl) hlo) (Nat.le_trans (Nat.le_of_ble_eq_true rfl) hce) (Nat.le_trans (Nat.le_of_ble_eq_true rfl) hsl) hH hS (fun v σa t0 H locs hp979 ht0 hvm hzz hH hS => ?_) (fun _ _ _ _ _ hz _ _ _ _ _ => by cases hz.1)
  obtain ⟨ho, hσ⟩ := hp979
  cases ho
  rw [hσ] at hH
  refine W.eq (g2 := F0 m 43 ls [.int (nI (20 * a0 + b0))]) rfl ?_
  refine mn_top (w := nI a) (congrArg nI hA) ?_
  refine lv_istore (lv' := [(4, .int (nI a)), (0, .ref (ad 13 0)), (1, .int (nI a0)), (2, .int (nI b0)), (3, .int (nI j))]) x.1 x.2.1 dd_md_kept_43 hl (by decide) rfl (fun ls hl => ?_)
  refine lv_iconst (v := nI 0) x.1 x.2.1 dd_md_kept_45 (by decide +kernel) ?_
  refine lv_istore (lv' := [(5, .int (nI 0)), (4, .int (nI a)), (0, .ref (ad 13 0)), (1, .int (nI a0)), (2, .int (nI b0)), (3, .int (nI j))]) x.1 x.2.1 dd_md_kept_46 hl (by decide) rfl (fun ls hl => ?_)
  refine lv_iconst (v := nI 0) x.1 x.2.1 dd_md_kept_48 (by decide +kernel) ?_
  refine lv_istore (lv' := [(6, .int (nI 0)), (5, .int (nI 0)), (4, .int (nI a)), (0, .ref (ad 13 0)), (1, .int (nI a0)), (2, .int (nI b0)), (3, .int (nI j))]) x.1 x.2.1 dd_md_kept_49 hl (by decide) rfl (fun ls hl => ?_)
  have loop980 : ∀ (n981 : Nat) (i : Nat) (σ : mp_M), i ≤ 25 → Lay ar ad rg pl V (mu M 27 0 (nI 0)) σ → 25 - i < n981 → ∀ (ls : Array Slot) (H : Heap) (locs : List Loc), lv_has ls 7 [(0, .ref (ad 13 0)), (3, .int (nI j)), (4, .int (nI a)), (5, .int (mbc (M 16 a) i)), (6, .int (nI i))] → HH D base σ H → va_S (mp_A base) s.heap H locs → W p l e R s m [.ref (ad 13 0), .int (nI a0), .int (nI b0), .int (nI j)].toArray below meth c H locs 0 0 (mp_Q below s 0 0 base (mp_P D cl_L base s (fun o σ' _ => o = .returned (some (.int (mkp M a j))) ∧ Lay ar ad rg pl V (mu M 27 0 (nI 0)) σ'))) (F0 m 51 ls []) := by
    intro n981
    induction n981 with
    | zero => intro i σ hi hL hmz; exact absurd hmz (Nat.not_lt_zero _)
    | succ n981 ihloop980 =>
      intro i σ hi hL hmz ls H locs hl hH hS
      refine lv_iload x.1 x.2.1 dd_md_kept_51 (lv_at hl 4 rfl) ?_
      refine lv_bipush (v := nI 25) x.1 x.2.1 dd_md_kept_53 (by decide +kernel) ?_
      refine lv_icmp_ge (tgt := 81) x.1 x.2.1 dd_md_kept_55 (by decide) (fun c982 => ?_) (fun c982 => ?_)
      · have c982 : 25 ≤ i := (cv_le (a := 25) (b := i) (by omega) (by omega)).mp c982
        obtain rfl : i = 25 := by omega
        refine lv_iload_n x.1 x.2.1 dd_md_kept_81 rfl (lv_at hl 1 rfl) ?_
        have hsw : j = 0 ∨ j = 1 ∨ j = 2 ∨ j = 3 ∨ j = 4 ∨ j = 5 ∨ j = 6 ∨ j = 7 ∨ j = 8 := by omega
        rcases hsw with rfl | rfl | rfl | rfl | rfl | rfl | rfl | rfl | rfl
        · refine lv_tableIn (tgt := 128) x.1 x.2.1 dd_md_kept_82 (by decide +kernel) (by decide +kernel) rfl (by decide) ?_
          refine lv_aload_n x.1 x.2.1 dd_md_kept_128 rfl (lv_at hl 0 rfl) ?_
          refine mp_get x hH (la13 hL) fg_md_23 rfl dd_md_kept_129 ?_
          refine lv_iload x.1 x.2.1 dd_md_kept_132 (lv_at hl 2 rfl) ?_
          refine ka_ld x hH hL 4 (j := a) (by decide) (by decide) (show a < 500 from (by omega)) (by decide) dd_md_kept_134 ?_
          refine mn_top (w := M 4 a) (mu_k (by decide)) ?_
          exact mp_ri x hr hlk (by decide) (by decide) hH hS (fun _ => ⟨(congrArg (fun z => Outcome.returned (some (.int z))) rfl), hL⟩) dd_md_kept_135
        · refine lv_tableIn (tgt := 136) x.1 x.2.1 dd_md_kept_82 (by decide +kernel) (by decide +kernel) rfl (by decide) ?_
          refine lv_aload_n x.1 x.2.1 dd_md_kept_136 rfl (lv_at hl 0 rfl) ?_
          refine mp_get x hH (la13 hL) fg_md_26 rfl dd_md_kept_137 ?_
          refine lv_iload x.1 x.2.1 dd_md_kept_140 (lv_at hl 2 rfl) ?_
          refine ka_ld x hH hL 5 (j := a) (by decide) (by decide) (show a < 500 from (by omega)) (by decide) dd_md_kept_142 ?_
          refine mn_top (w := M 5 a) (mu_k (by decide)) ?_
          exact mp_ri x hr hlk (by decide) (by decide) hH hS (fun _ => ⟨(congrArg (fun z => Outcome.returned (some (.int z))) rfl), hL⟩) dd_md_kept_143
        · refine lv_tableIn (tgt := 144) x.1 x.2.1 dd_md_kept_82 (by decide +kernel) (by decide +kernel) rfl (by decide) ?_
          refine lv_aload_n x.1 x.2.1 dd_md_kept_144 rfl (lv_at hl 0 rfl) ?_
          refine mp_get x hH (la13 hL) fg_md_26 rfl dd_md_kept_145 ?_
          refine lv_iload x.1 x.2.1 dd_md_kept_148 (lv_at hl 2 rfl) ?_
          refine ka_ld x hH hL 5 (j := a) (by decide) (by decide) (show a < 500 from (by omega)) (by decide) dd_md_kept_150 ?_
          refine mn_top (w := M 5 a) (mu_k (by decide)) ?_
          refine lv_if_le (tgt := 164) x.1 x.2.1 dd_md_kept_151 (by decide) (fun c983 => ?_) (fun c983 => ?_)
          · refine lv_iconst (v := (-1)) x.1 x.2.1 dd_md_kept_164 (by decide +kernel) ?_
            exact mp_ri x hr hlk (by decide) (by decide) hH hS (fun _ => ⟨(congrArg (fun z => Outcome.returned (some (.int z))) (mkp_2n c983)), hL⟩) dd_md_kept_165
          · refine lv_aload_n x.1 x.2.1 dd_md_kept_154 rfl (lv_at hl 0 rfl) ?_
            refine mp_get x hH (la13 hL) fg_md_29 rfl dd_md_kept_155 ?_
            refine lv_iload x.1 x.2.1 dd_md_kept_158 (lv_at hl 2 rfl) ?_
            refine ka_ld x hH hL 6 (j := a) (by decide) (by decide) (show a < 500 from (by omega)) (by decide) dd_md_kept_160 ?_
            refine mn_top (w := M 6 a) (mu_k (by decide)) ?_
            refine lv_goto (tgt := 165) x.1 x.2.1 dd_md_kept_161 (by decide) ?_
            exact mp_ri x hr hlk (by decide) (by decide) hH hS (fun _ => ⟨(congrArg (fun z => Outcome.returned (some (.int z))) (mkp_2p c983)), hL⟩) dd_md_kept_165
        · refine lv_tableIn (tgt := 166) x.1 x.2.1 dd_md_kept_82 (by decide +kernel) (by decide +kernel) rfl (by decide) ?_
          refine lv_aload_n x.1 x.2.1 dd_md_kept_166 rfl (lv_at hl 0 rfl) ?_
          refine mp_get x hH (la13 hL) fg_md_26 rfl dd_md_kept_167 ?_
          refine lv_iload x.1 x.2.1 dd_md_kept_170 (lv_at hl 2 rfl) ?_
          refine ka_ld x hH hL 5 (j := a) (by decide) (by decide) (show a < 500 from (by omega)) (by decide) dd_md_kept_172 ?_
          refine mn_top (w := M 5 a) (mu_k (by decide)) ?_
          refine lv_if_le (tgt := 186) x.1 x.2.1 dd_md_kept_173 (by decide) (fun c984 => ?_) (fun c984 => ?_)
          · refine lv_iconst (v := (-1)) x.1 x.2.1 dd_md_kept_186 (by decide +kernel) ?_
            exact mp_ri x hr hlk (by decide) (by decide) hH hS (fun _ => ⟨(congrArg (fun z => Outcome.returned (some (.int z))) (mkp_3n c984)), hL⟩) dd_md_kept_187
          · refine lv_aload_n x.1 x.2.1 dd_md_kept_176 rfl (lv_at hl 0 rfl) ?_
            refine mp_get x hH (la13 hL) fg_md_32 rfl dd_md_kept_177 ?_
            refine lv_iload x.1 x.2.1 dd_md_kept_180 (lv_at hl 2 rfl) ?_
            refine ka_ld x hH hL 7 (j := a) (by decide) (by decide) (show a < 500 from (by omega)) (by decide) dd_md_kept_182 ?_
            refine mn_top (w := M 7 a) (mu_k (by decide)) ?_
            refine lv_goto (tgt := 187) x.1 x.2.1 dd_md_kept_183 (by decide) ?_
            exact mp_ri x hr hlk (by decide) (by decide) hH hS (fun _ => ⟨(congrArg (fun z => Outcome.returned (some (.int z))) (mkp_3p c984)), hL⟩) dd_md_kept_187
        · refine lv_tableIn (tgt := 188) x.1 x.2.1 dd_md_kept_82 (by decide +kernel) (by decide +kernel) rfl (by decide) ?_
          refine lv_aload_n x.1 x.2.1 dd_md_kept_188 rfl (lv_at hl 0 rfl) ?_
          refine mp_get x hH (la13 hL) fg_md_35 rfl dd_md_kept_189 ?_
          refine lv_iload x.1 x.2.1 dd_md_kept_192 (lv_at hl 2 rfl) ?_
          refine ka_ld x hH hL 8 (j := a) (by decide) (by decide) (show a < 500 from (by omega)) (by decide) dd_md_kept_194 ?_
          refine mn_top (w := M 8 a) (mu_k (by decide)) ?_
          exact mp_ri x hr hlk (by decide) (by decide) hH hS (fun _ => ⟨(congrArg (fun z => Outcome.returned (some (.int z))) rfl), hL⟩) dd_md_kept_195
        · refine lv_tableIn (tgt := 196) x.1 x.2.1 dd_md_kept_82 (by decide +kernel) (by decide +kernel) rfl (by decide) ?_
          refine lv_aload_n x.1 x.2.1 dd_md_kept_196 rfl (lv_at hl 0 rfl) ?_
          refine mp_get x hH (la13 hL) fg_md_20 rfl dd_md_kept_197 ?_
          refine lv_iload x.1 x.2.1 dd_md_kept_200 (lv_at hl 2 rfl) ?_
          refine ka_ld x hH hL 3 (j := a) (by decide) (by decide) (show a < 500 from (by omega)) (by decide) dd_md_kept_202 ?_
          refine mn_top (w := M 3 a) (mu_k (by decide)) ?_
          exact mp_ri x hr hlk (by decide) (by decide) hH hS (fun _ => ⟨(congrArg (fun z => Outcome.returned (some (.int z))) rfl), hL⟩) dd_md_kept_203
        · refine lv_tableIn (tgt := 204) x.1 x.2.1 dd_md_kept_82 (by decide +kernel) (by decide +kernel) rfl (by decide) ?_
          refine lv_aload_n x.1 x.2.1 dd_md_kept_204 rfl (lv_at hl 0 rfl) ?_
          refine mp_get x hH (la13 hL) fg_md_53 rfl dd_md_kept_205 ?_
          refine lv_iload x.1 x.2.1 dd_md_kept_208 (lv_at hl 2 rfl) ?_
          refine ka_ld x hH hL 14 (j := a) (by decide) (by decide) (show a < 500 from (by omega)) (by decide) dd_md_kept_210 ?_
          refine mn_top (w := M 14 a) (mu_k (by decide)) ?_
          exact mp_ri x hr hlk (by decide) (by decide) hH hS (fun _ => ⟨(congrArg (fun z => Outcome.returned (some (.int z))) rfl), hL⟩) dd_md_kept_211
        · refine lv_tableIn (tgt := 212) x.1 x.2.1 dd_md_kept_82 (by decide +kernel) (by decide +kernel) rfl (by decide) ?_
          refine lv_aload_n x.1 x.2.1 dd_md_kept_212 rfl (lv_at hl 0 rfl) ?_
          refine mp_get x hH (la13 hL) fg_md_56 rfl dd_md_kept_213 ?_
          refine lv_iload x.1 x.2.1 dd_md_kept_216 (lv_at hl 2 rfl) ?_
          refine ka_ld x hH hL 15 (j := a) (by decide) (by decide) (show a < 500 from (by omega)) (by decide) dd_md_kept_218 ?_
          refine mn_top (w := M 15 a) (mu_k (by decide)) ?_
          exact mp_ri x hr hlk (by decide) (by decide) hH hS (fun _ => ⟨(congrArg (fun z => Outcome.returned (some (.int z))) rfl), hL⟩) dd_md_kept_219
        · refine lv_tableOut (tgt := 220) x.1 x.2.1 dd_md_kept_82 (by decide +kernel) (by decide) ?_
          refine lv_iload x.1 x.2.1 dd_md_kept_220 (lv_at hl 3 rfl) ?_
          exact mp_ri x hr hlk (by decide) (by decide) hH hS (fun _ => ⟨(congrArg (fun z => Outcome.returned (some (.int z))) rfl), hL⟩) dd_md_kept_222
      · have c982 : ¬ (25 ≤ i) := fun h => c982 ((cv_le (a := 25) (b := i) (by omega) (by omega)).mpr h)
        refine lv_iload x.1 x.2.1 dd_md_kept_58 (lv_at hl 3 rfl) ?_
        refine lv_aload_n x.1 x.2.1 dd_md_kept_60 rfl (lv_at hl 0 rfl) ?_
        refine mp_get x hH (la13 hL) fg_md_59 rfl dd_md_kept_61 ?_
        refine lv_iload x.1 x.2.1 dd_md_kept_64 (lv_at hl 2 rfl) ?_
        refine ka_ld x hH hL 16 (j := a) (by decide) (by decide) (show a < 500 from (by omega)) (by decide) dd_md_kept_66 ?_
        refine mn_top (w := M 16 a) (mu_k (by decide)) ?_
        refine lv_iload x.1 x.2.1 dd_md_kept_67 (lv_at hl 4 rfl) ?_
        refine lv_ishr x.1 x.2.1 dd_md_kept_69 ?_
        refine lv_iconst (v := nI 1) x.1 x.2.1 dd_md_kept_70 (by decide +kernel) ?_
        refine lv_iand x.1 x.2.1 dd_md_kept_71 ?_
        refine lv_iadd x.1 x.2.1 dd_md_kept_72 ?_
        refine lv_istore (lv' := [(5, .int ((mbc (M 16 a) i) + (((M 16 a) >>> ((nI i) &&& 31)) &&& (nI 1)))), (0, .ref (ad 13 0)), (3, .int (nI j)), (4, .int (nI a)), (6, .int (nI i))]) x.1 x.2.1 dd_md_kept_73 hl (by decide) rfl (fun ls hl => ?_)
        refine lv_iinc (v := nI (i + 1)) (lv' := [(6, .int (nI (i + 1))), (5, .int ((mbc (M 16 a) i) + (((M 16 a) >>> ((nI i) &&& 31)) &&& (nI 1)))), (0, .ref (ad 13 0)), (3, .int (nI j)), (4, .int (nI a))]) x.1 x.2.1 dd_md_kept_75 hl (k := 4) rfl (mn_inc _) (by decide) rfl (fun ls hl => ?_)
        refine lv_goto (tgt := 51) x.1 x.2.1 dd_md_kept_78 (by decide) ?_
        exact ihloop980 (i + 1) _ (by omega) hL (by omega) ls H _ (lv_sub hl [2, 3, 4, 1, 0] rfl) hH hS
  exact loop980 _ 0 _ (by decide) hL (Nat.lt_succ_self _) ls H _ (lv_sub hl [3, 6, 2, 1, 0] rfl) hH hS
def lbs (M : fV) : Nat → Int32
  | 0 => nI 0
  | i + 1 => if M 2 i = 0 then lbs M i ||| nI 1 <<< (nI i &&& 31) else lbs M i ||| nI 0
noncomputable def mlv (u : Int32) : Int32 := (if hec u = 0 then nI 0 else nI 1) + (if hwm u = 0 then nI 0 else nI 2)
set_option maxRecDepth 100000 in
set_option maxHeartbeats 4000000 in
theorem kk_MX_live {l : Launch} {D : va_G} {ar : Nat → ClassId} {base : Nat} {σ : mp_M} {ad : Nat → Nat → Nat} {rg : Nat → Bool} {pl : Nat → Nat} {V M : fV}  (hL : Lay ar ad rg pl V M σ)  : CN l D ar base yy_md_live prog_9_method_33_code 3 (Option.some Jvm.ClassFile.FieldType.int) [] 1 17 0 0 [.ref (ad 13 0)] σ (fun o σ' _ => o = .returned (some (.int (mlv (lbs M 25)))) ∧ Lay ar ad rg pl V (mu M 27 0 (nI 0)) σ') := by
  refine mp_in (Nat.le_of_ble_eq_true rfl) ?_
  intro p e R s m below meth c x hfr hlo hce hsl hr hlk hin hex hG hB ls H hH0 hH hS hl
  have hl : lv_has ls 3 [(0, .ref (ad 13 0))] := hl
  refine lv_aload_n x.1 x.2.1 dd_md_live_0 rfl (lv_at hl 0 rfl) ?_
  refine lv_iconst (v := nI 0) x.1 x.2.1 dd_md_live_1 (by decide +kernel) ?_
  refine kp_27 x hH hS hL fp_md_80 dd_md_live_2 (fun σ hL H locs hH hS => ?_)
  refine lv_iconst (v := nI 0) x.1 x.2.1 dd_md_live_5 (by decide +kernel) ?_
  refine lv_istore_n (lv' := [(1, .int (nI 0)), (0, .ref (ad 13 0))]) x.1 x.2.1 dd_md_live_6 rfl hl (by decide) rfl (fun ls hl => ?_)
  refine lv_iconst (v := nI 0) x.1 x.2.1 dd_md_live_7 (by decide +kernel) ?_
  refine lv_istore_n (lv' := [(2, .int (nI 0)), (1, .int (nI 0)), (0, .ref (ad 13 0))]) x.1 x.2.1 dd_md_live_8 rfl hl (by decide) rfl (fun ls hl => ?_)
  have loop985 : ∀ (n986 : Nat) (i : Nat) (σ : mp_M), i ≤ 25 → Lay ar ad rg pl V (mu M 27 0 (nI 0)) σ → 25 - i < n986 → ∀ (ls : Array Slot) (H : Heap) (locs : List Loc), lv_has ls 3 [(0, .ref (ad 13 0)), (1, .int (lbs M i)), (2, .int (nI i))] → HH D base σ H → va_S (mp_A base) s.heap H locs → W p l e R s m [.ref (ad 13 0)].toArray below meth c H locs 0 0 (mp_Q below s 0 0 base (mp_P D cl_L base s (fun o σ' _ => o = .returned (some (.int (mlv (lbs M 25)))) ∧ Lay ar ad rg pl V (mu M 27 0 (nI 0)) σ'))) (F0 m 9 ls []) := by
    intro n986
    induction n986 with
    | zero => intro i σ hi hL hmz; exact absurd hmz (Nat.not_lt_zero _)
    | succ n986 ihloop985 =>
      intro i σ hi hL hmz ls H locs hl hH hS
      refine lv_iload_n x.1 x.2.1 dd_md_live_9 rfl (lv_at hl 2 rfl) ?_
      refine lv_bipush (v := nI 25) x.1 x.2.1 dd_md_live_10 (by decide +kernel) ?_
      refine lv_icmp_ge (tgt := 40) x.1 x.2.1 dd_md_live_12 (by decide) (fun c987 => ?_) (fun c987 => ?_)
      · have c987 : 25 ≤ i := (cv_le (a := 25) (b := i) (by omega) (by omega)).mp c987
        obtain rfl : i = 25 := by omega
        refine lv_aload_n x.1 x.2.1 dd_md_live_40 rfl (lv_at hl 0 rfl) ?_
        refine lv_iload_n x.1 x.2.1 dd_md_live_41 rfl (lv_at hl 1 rfl) ?_
        refine mp_call x (wt_mv base) hG hB hl.1 (mp_invV (av := [.int (lbs M 25)]) x hH (la13 hL) rfl rfl mn_md_hasEachColumn mc_md_hasEachColumn (Or.inl ww_873) ww_875 ww_51 rfl dd_md_live_42) (kk_M_hec hL) (Nat.le_trans (Nat.le_of_ble_eq_true rfl) hfr) (Nat.le_trans (Nat.le_of_ble_eq_true rfl) hlo) (Nat.le_trans (Nat.le_of_ble_eq_true rfl) hce) (Nat.le_trans (Nat.le_of_ble_eq_true rfl) hsl) hH hS (fun v σa t0 H locs hp988 ht0 hvm hzz hH hS => ?_) (fun _ _ _ _ _ hz _ _ _ _ _ => by cases hz.1)
        obtain ⟨ho, hL⟩ := hp988
        cases ho
        refine W.eq (g2 := F0 m 45 ls [.int (hec (lbs M 25))]) rfl ?_
        refine lv_if_eq (tgt := 52) x.1 x.2.1 dd_md_live_45 (by decide) (fun c989 => ?_) (fun c989 => ?_)
        · refine lv_iconst (v := nI 0) x.1 x.2.1 dd_md_live_52 (by decide +kernel) ?_
          refine lv_aload_n x.1 x.2.1 dd_md_live_53 rfl (lv_at hl 0 rfl) ?_
          refine lv_iload_n x.1 x.2.1 dd_md_live_54 rfl (lv_at hl 1 rfl) ?_
          refine mp_call x (wt_mv base) hG hB hl.1 (mp_invV (av := [.int (lbs M 25)]) x hH (la13 hL) rfl rfl mn_md_hasWholeColumn mc_md_hasWholeColumn (Or.inl ww_877) ww_879 ww_52 rfl dd_md_live_55) (kk_M_hwc hL) (Nat.le_trans (Nat.le_of_ble_eq_true rfl) hfr) (Nat.le_trans (Nat.le_of_ble_eq_true rfl) hlo) (Nat.le_trans (Nat.le_of_ble_eq_true rfl) hce) (Nat.le_trans (Nat.le_of_ble_eq_true rfl) hsl) hH hS (fun v σa t0 H locs hp990 ht0 hvm hzz hH hS => ?_) (fun _ _ _ _ _ hz _ _ _ _ _ => by cases hz.1)
          obtain ⟨ho, hL⟩ := hp990
          cases ho
          refine W.eq (g2 := F0 m 58 ls [.int (hwm (lbs M 25)), .int (nI 0)]) rfl ?_
          refine lv_if_eq (tgt := 65) x.1 x.2.1 dd_md_live_58 (by decide) (fun c991 => ?_) (fun c991 => ?_)
          · refine lv_iconst (v := nI 0) x.1 x.2.1 dd_md_live_65 (by decide +kernel) ?_
            refine lv_iadd x.1 x.2.1 dd_md_live_66 ?_
            refine mn_top (w := nI 0) (nI_add _ _) ?_
            exact mp_ri x hr hlk (by decide) (by decide) hH hS (fun _ => ⟨(congrArg (fun z => Outcome.returned (some (.int z))) (by rw [mlv, if_pos c989, if_pos c991]; rfl)), hL⟩) dd_md_live_67
          · refine lv_iconst (v := nI 2) x.1 x.2.1 dd_md_live_61 (by decide +kernel) ?_
            refine lv_goto (tgt := 66) x.1 x.2.1 dd_md_live_62 (by decide) ?_
            refine lv_iadd x.1 x.2.1 dd_md_live_66 ?_
            refine mn_top (w := nI 2) (nI_add _ _) ?_
            exact mp_ri x hr hlk (by decide) (by decide) hH hS (fun _ => ⟨(congrArg (fun z => Outcome.returned (some (.int z))) (by rw [mlv, if_pos c989, if_neg c991]; rfl)), hL⟩) dd_md_live_67
        · refine lv_iconst (v := nI 1) x.1 x.2.1 dd_md_live_48 (by decide +kernel) ?_
          refine lv_goto (tgt := 53) x.1 x.2.1 dd_md_live_49 (by decide) ?_
          refine lv_aload_n x.1 x.2.1 dd_md_live_53 rfl (lv_at hl 0 rfl) ?_
          refine lv_iload_n x.1 x.2.1 dd_md_live_54 rfl (lv_at hl 1 rfl) ?_
          refine mp_call x (wt_mv base) hG hB hl.1 (mp_invV (av := [.int (lbs M 25)]) x hH (la13 hL) rfl rfl mn_md_hasWholeColumn mc_md_hasWholeColumn (Or.inl ww_877) ww_879 ww_52 rfl dd_md_live_55) (kk_M_hwc hL) (Nat.le_trans (Nat.le_of_ble_eq_true rfl) hfr) (Nat.le_trans (Nat.le_of_ble_eq_true rfl) hlo) (Nat.le_trans (Nat.le_of_ble_eq_true rfl) hce) (Nat.le_trans (Nat.le_of_ble_eq_true rfl) hsl) hH hS (fun v σa t0 H locs hp992 ht0 hvm hzz hH hS => ?_) (fun _ _ _ _ _ hz _ _ _ _ _ => by cases hz.1)
          obtain ⟨ho, hL⟩ := hp992
          cases ho
          refine W.eq (g2 := F0 m 58 ls [.int (hwm (lbs M 25)), .int (nI 1)]) rfl ?_
          refine lv_if_eq (tgt := 65) x.1 x.2.1 dd_md_live_58 (by decide) (fun c993 => ?_) (fun c993 => ?_)
          · refine lv_iconst (v := nI 0) x.1 x.2.1 dd_md_live_65 (by decide +kernel) ?_
            refine lv_iadd x.1 x.2.1 dd_md_live_66 ?_
            refine mn_top (w := nI 1) (nI_add _ _) ?_
            exact mp_ri x hr hlk (by decide) (by decide) hH hS (fun _ => ⟨(congrArg (fun z => Outcome.returned (some (.int z))) (by rw [mlv, if_neg c989, if_pos c993]; rfl)), hL⟩) dd_md_live_67
          · refine lv_iconst (v := nI 2) x.1 x.2.1 dd_md_live_61 (by decide +kernel) ?_
            refine lv_goto (tgt := 66) x.1 x.2.1 dd_md_live_62 (by decide) ?_
            refine lv_iadd x.1 x.2.1 dd_md_live_66 ?_
            refine mn_top (w := nI 3) (nI_add _ _) ?_
            exact mp_ri x hr hlk (by decide) (by decide) hH hS (fun _ => ⟨(congrArg (fun z => Outcome.returned (some (.int z))) (by rw [mlv, if_neg c989, if_neg c993]; rfl)), hL⟩) dd_md_live_67
      · have c987 : ¬ (25 ≤ i) := fun h => c987 ((cv_le (a := 25) (b := i) (by omega) (by omega)).mpr h)
        refine lv_iload_n x.1 x.2.1 dd_md_live_15 rfl (lv_at hl 1 rfl) ?_
        refine lv_aload_n x.1 x.2.1 dd_md_live_16 rfl (lv_at hl 0 rfl) ?_
        refine mp_get x hH (la13 hL) fg_md_16 rfl dd_md_live_17 ?_
        refine lv_iload_n x.1 x.2.1 dd_md_live_20 rfl (lv_at hl 2 rfl) ?_
        refine kz_ld x hH hL (j := i) (by omega) dd_md_live_21 ?_
        refine mn_top (w := M 2 i) (mu_k (by decide)) ?_
        refine lv_if_eq (tgt := 29) x.1 x.2.1 dd_md_live_22 (by decide) (fun c994 => ?_) (fun c994 => ?_)
        · refine lv_iconst (v := nI 1) x.1 x.2.1 dd_md_live_29 (by decide +kernel) ?_
          refine lv_iload_n x.1 x.2.1 dd_md_live_30 rfl (lv_at hl 2 rfl) ?_
          refine lv_ishl x.1 x.2.1 dd_md_live_31 ?_
          refine lv_ior x.1 x.2.1 dd_md_live_32 ?_
          refine mn_top (w := lbs M (i + 1)) (by rw [lbs, if_pos c994]) ?_
          refine lv_istore_n (lv' := [(1, .int (lbs M (i + 1))), (0, .ref (ad 13 0)), (2, .int (nI i))]) x.1 x.2.1 dd_md_live_33 rfl hl (by decide) rfl (fun ls hl => ?_)
          refine lv_iinc (v := nI (i + 1)) (lv' := [(2, .int (nI (i + 1))), (1, .int (lbs M (i + 1))), (0, .ref (ad 13 0))]) x.1 x.2.1 dd_md_live_34 hl (k := 2) rfl (mn_inc _) (by decide) rfl (fun ls hl => ?_)
          refine lv_goto (tgt := 9) x.1 x.2.1 dd_md_live_37 (by decide) ?_
          exact ihloop985 (i + 1) _ (by omega) hL (by omega) ls H _ (lv_sub hl [2, 1, 0] rfl) hH hS
        · refine lv_iconst (v := nI 0) x.1 x.2.1 dd_md_live_25 (by decide +kernel) ?_
          refine lv_goto (tgt := 32) x.1 x.2.1 dd_md_live_26 (by decide) ?_
          refine lv_ior x.1 x.2.1 dd_md_live_32 ?_
          refine mn_top (w := lbs M (i + 1)) (by rw [lbs, if_neg c994]) ?_
          refine lv_istore_n (lv' := [(1, .int (lbs M (i + 1))), (0, .ref (ad 13 0)), (2, .int (nI i))]) x.1 x.2.1 dd_md_live_33 rfl hl (by decide) rfl (fun ls hl => ?_)
          refine lv_iinc (v := nI (i + 1)) (lv' := [(2, .int (nI (i + 1))), (1, .int (lbs M (i + 1))), (0, .ref (ad 13 0))]) x.1 x.2.1 dd_md_live_34 hl (k := 2) rfl (mn_inc _) (by decide) rfl (fun ls hl => ?_)
          refine lv_goto (tgt := 9) x.1 x.2.1 dd_md_live_37 (by decide) ?_
          exact ihloop985 (i + 1) _ (by omega) hL (by omega) ls H _ (lv_sub hl [2, 1, 0] rfl) hH hS
  exact loop985 _ 0 _ (by decide) hL (Nat.lt_succ_self _) ls H _ (lv_sub hl [2, 1, 0] rfl) hH hS
def mtt (M : fV) (j : Nat) : Int32 := if j = 0 then M 24 0 else if j = 1 then M 25 0 else M 26 0
set_option maxRecDepth 100000 in
set_option maxHeartbeats 4000000 in
theorem kk_MX_total_0 {l : Launch} {D : va_G} {ar : Nat → ClassId} {base : Nat} {σ : mp_M} {ad : Nat → Nat → Nat} {rg : Nat → Bool} {pl : Nat → Nat} {V M : fV} {j : Nat} (hL : Lay ar ad rg pl V M σ) (hj : j < 3) : CN l D ar base yy_md_total prog_9_method_34_code 2 (Option.some Jvm.ClassFile.FieldType.int) [] 1 14 0 0 [.ref (ad 13 0), .int (nI j)] σ (fun o σ' _ => o = .returned (some (.int (mtt M j))) ∧ Lay ar ad rg pl V (mu M 27 0 (nI 0)) σ') := by
  refine mp_in (Nat.le_of_ble_eq_true rfl) ?_
  intro p e R s m below meth c x hfr hlo hce hsl hr hlk hin hex hG hB ls H hH0 hH hS hl
  have hl : lv_has ls 2 [(0, .ref (ad 13 0)), (1, .int (nI j))] := hl
  refine lv_aload_n x.1 x.2.1 dd_md_total_0 rfl (lv_at hl 0 rfl) ?_
  refine lv_iload_n x.1 x.2.1 dd_md_total_1 rfl (lv_at hl 1 rfl) ?_
  refine lv_iconst (v := nI 3) x.1 x.2.1 dd_md_total_2 (by decide +kernel) ?_
  refine mp_call x (wt_mv base) hG hB hl.1 (mp_invS (av := [.int (nI j), .int (nI 3)]) x mn_md_within mc_md_within (Or.inl ww_811) ww_812 ww_60 rfl dd_md_total_3) (kk_M_within_ok (in_ok (by omega) (by decide))) (Nat.le_trans (Nat.le_of_ble_eq_true rfl) hfr) (Nat.le_trans (Nat.le_of_ble_eq_true rfl) hlo) (Nat.le_trans (Nat.le_of_ble_eq_true rfl) hce) (Nat.le_trans (Nat.le_of_ble_eq_true rfl) hsl) hH hS (fun v σa t0 H locs hp995 ht0 hvm hzz hH hS => ?_) (fun _ _ _ _ _ hz _ _ _ _ _ => by cases hz.1)
  obtain ⟨ho, hσ⟩ := hp995
  cases ho
  rw [hσ] at hH
  refine W.eq (g2 := F0 m 6 ls [.int (nI 1), .ref (ad 13 0)]) rfl ?_
  refine lv_if_ne (tgt := 13) x.1 x.2.1 dd_md_total_6 (by decide) (fun c996 => ?_) (fun c996 => absurd c996 (by decide +kernel))
  refine lv_iconst (v := nI 0) x.1 x.2.1 dd_md_total_13 (by decide +kernel) ?_
  refine lv_iconst (v := nI 1) x.1 x.2.1 dd_md_total_14 (by decide +kernel) ?_
  refine mp_call x (wt_mv base) hG hB hl.1 (mp_invV (av := [.int (nI 0), .int (nI 1)]) x hH (la13 hL) rfl rfl mn_md_fails mc_md_fails (Or.inl ww_814) ww_816 ww_41 rfl dd_md_total_15) (kk_M_fails0 hL) (Nat.le_trans (Nat.le_of_ble_eq_true rfl) hfr) (Nat.le_trans (Nat.le_of_ble_eq_true rfl) hlo) (Nat.le_trans (Nat.le_of_ble_eq_true rfl) hce) (Nat.le_trans (Nat.le_of_ble_eq_true rfl) hsl) hH hS (fun v σa t0 H locs hp997 ht0 hvm hzz hH hS => ?_) (fun _ _ _ _ _ hz _ _ _ _ _ => by cases hz.1)
  obtain ⟨ho, hL⟩ := hp997
  cases ho
  refine W.eq (g2 := F0 m 18 ls [.int (nI 0)]) rfl ?_
  refine lv_if_eq (tgt := 23) x.1 x.2.1 dd_md_total_18 (by decide) (fun c998 => ?_) (fun c998 => absurd (by decide +kernel) c998)
  refine lv_iload_n x.1 x.2.1 dd_md_total_23 rfl (lv_at hl 1 rfl) ?_
  refine lv_if_ne (tgt := 34) x.1 x.2.1 dd_md_total_24 (by decide) (fun c999 => ?_) (fun c999 => ?_)
  · have c999 : ¬ (j = 0) := fun h => c999 ((cv_eq (a := j) (b := 0) (by omega) (by omega)).mpr h)
    refine lv_iload_n x.1 x.2.1 dd_md_total_34 rfl (lv_at hl 1 rfl) ?_
    refine lv_iconst (v := nI 1) x.1 x.2.1 dd_md_total_35 (by decide +kernel) ?_
    refine lv_icmp_ne (tgt := 46) x.1 x.2.1 dd_md_total_36 (by decide) (fun c1000 => ?_) (fun c1000 => ?_)
    · have c1000 : ¬ (j = 1) := fun h => c1000 ((cv_eq (a := j) (b := 1) (by omega) (by omega)).mpr h)
      refine lv_aload_n x.1 x.2.1 dd_md_total_46 rfl (lv_at hl 0 rfl) ?_
      refine mp_get x hH (la13 hL) fg_md_96 rfl dd_md_total_47 ?_
      refine mn_top (w := M 26 0) (mu_k (by decide)) ?_
      exact mp_ri x hr hlk (by decide) (by decide) hH hS (fun _ => ⟨(congrArg (fun z => Outcome.returned (some (.int z))) (by rw [mtt, if_neg c999, if_neg c1000])), hL⟩) dd_md_total_50
    · have c1000 : j = 1 := (cv_eq (a := j) (b := 1) (by omega) (by omega)).mp c1000
      refine lv_aload_n x.1 x.2.1 dd_md_total_39 rfl (lv_at hl 0 rfl) ?_
      refine mp_get x hH (la13 hL) fg_md_144 rfl dd_md_total_40 ?_
      refine mn_top (w := M 25 0) (mu_k (by decide)) ?_
      refine lv_goto (tgt := 50) x.1 x.2.1 dd_md_total_43 (by decide) ?_
      exact mp_ri x hr hlk (by decide) (by decide) hH hS (fun _ => ⟨(congrArg (fun z => Outcome.returned (some (.int z))) (by rw [mtt, if_neg c999, if_pos c1000])), hL⟩) dd_md_total_50
  · have c999 : j = 0 := (cv_eq (a := j) (b := 0) (by omega) (by omega)).mp c999
    refine lv_aload_n x.1 x.2.1 dd_md_total_27 rfl (lv_at hl 0 rfl) ?_
    refine mp_get x hH (la13 hL) fg_md_102 rfl dd_md_total_28 ?_
    refine mn_top (w := M 24 0) (mu_k (by decide)) ?_
    refine lv_goto (tgt := 50) x.1 x.2.1 dd_md_total_31 (by decide) ?_
    exact mp_ri x hr hlk (by decide) (by decide) hH hS (fun _ => ⟨(congrArg (fun z => Outcome.returned (some (.int z))) (by rw [mtt, if_pos c999])), hL⟩) dd_md_total_50
