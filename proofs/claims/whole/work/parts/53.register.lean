/-! REGISTER. -/
theorem RG_no {rg : Nat → Bool} {b0 : Nat} (hb : b0 < 20) (hg : rg b0 = false) : ∀ t, t < 25 → ∀ kd, 9 ≤ kd → kd ≤ 12 → ¬ Lv rg kd (20 * t + b0) := by
  intro t ht kd h1 h2 h
  rcases h with h | h | h | ⟨-, -, h | ⟨-, h⟩⟩ | h | h | h
  · omega
  · omega
  · omega
  · omega
  · have e1 : (20 * t + b0) % 20 = b0 := by omega
    rw [e1, hg] at h
    cases h
  · omega
  · omega
  · omega
theorem RG_rf {rg : Nat → Bool} {b0 : Nat} (hb : b0 < 20) (hg : rg b0 = false) : ∀ t, t < 25 → ∀ kd i k0, Lv rg kd i → 9 ≤ k0 → k0 ≤ 12 → ¬ rfs kd i k0 (20 * t + b0) := by
  intro t ht kd i k0 hl h1 h2 z
  unfold rfs at z
  rcases z with z | z | z | z | z | z | z | ⟨z1, z2, q, z3⟩ | z | z | z
  · omega
  · omega
  · omega
  · omega
  · omega
  · omega
  · omega
  · subst z1
    rcases hl with h | h | ⟨-, h3, h4⟩ | h | h | h | h
    · omega
    · omega
    · have e1 : i = b0 := by omega
      rw [e1, hg] at h4
      cases h4
    · omega
    · omega
    · omega
    · omega
  · obtain ⟨rfl, -, z3⟩ := z
    subst z3
    exact RG_no hb hg t ht 9 (by decide) (by decide) hl
  · obtain ⟨rfl, -, z3⟩ := z
    subst z3
    exact RG_no hb hg t ht 10 (by decide) (by decide) hl
  · omega
set_option maxRecDepth 100000 in
set_option maxHeartbeats 4000000 in
theorem kk_X_register_1 {l : Launch} {D : va_G} {ar : Nat → ClassId} {base : Nat} {σ : mp_M} {ad : Nat → Nat → Nat} {rg : Nat → Bool} {pl : Nat → Nat} {V M : fV} {k0 k1 k2 : Int32} (hL : Lay ar ad rg pl V M σ) (hfl : l.flags = flags0) (hQ : (k0 < 0 ∨ nI 20 ≤ k0) ∨ (k1 < nI 1 ∨ nI 12 < k1) ∨ (k2 < nI 0 ∨ nI 90 < k2)) : CN l D ar base yy_sg_register prog_1_method_2_code 4 (Option.none : Option Jvm.ClassFile.FieldType) [] 7 96 6 36 [.ref (ad 0 0), .int k0, .int k1, .int k2] σ (fun o σ' t => ∃ a, o = .threw a ∧ mp_T mp_iae a t ∧ σ' = σ) := by
  refine mp_in (Nat.le_of_ble_eq_true rfl) ?_
  intro p e R s m below meth c x hfr hlo hce hsl hr hlk hin hex hG hB ls H hH0 hH hS hl
  have hl : lv_has ls 4 [(0, .ref (ad 0 0)), (1, .int k0), (2, .int k1), (3, .int k2)] := hl
  refine lv_iload_n x.1 x.2.1 dd_sg_register_0 rfl (lv_at hl 1 rfl) ?_
  by_cases hq0 : k0 < 0 ∨ nI 20 ≤ k0
  · skip
    refine mp_call x (wt_mv base) hG hB hl.1 (mp_invS (av := [.int k0]) x mn_sg_needPrescription mc_sg_needPrescription (Or.inl ww_309) ww_310 ww_54 rfl dd_sg_register_1) (kk_G_pres_no hfl hq0) (Nat.le_trans (Nat.le_of_ble_eq_true rfl) hfr) (Nat.le_trans (Nat.le_of_ble_eq_true rfl) hlo) (Nat.le_trans (Nat.le_of_ble_eq_true rfl) hce) (Nat.le_trans (Nat.le_of_ble_eq_true rfl) hsl) hH hS (fun v σa t0 H locs hp321 ht0 hvm hzz hH hS => by obtain ⟨a, ho, -⟩ := hp321; cases ho) (fun a σa t0 H locs hp321 ht0 hvm hzz hH hS => ?_)
    obtain ⟨a, ho, hT, hσ⟩ := hp321
    cases ho
    rw [hσ] at hH
    exact mp_ro hlk hex (by decide) (by decide) hH hS hT ht0 hvm (fun t hT => ⟨a, rfl, hT, rfl⟩)
  · skip
    refine mp_call x (wt_mv base) hG hB hl.1 (mp_invS (av := [.int k0]) x mn_sg_needPrescription mc_sg_needPrescription (Or.inl ww_309) ww_310 ww_54 rfl dd_sg_register_1) (kk_G_pres_ok hfl hq0) (Nat.le_trans (Nat.le_of_ble_eq_true rfl) hfr) (Nat.le_trans (Nat.le_of_ble_eq_true rfl) hlo) (Nat.le_trans (Nat.le_of_ble_eq_true rfl) hce) (Nat.le_trans (Nat.le_of_ble_eq_true rfl) hsl) hH hS (fun v σa t0 H locs hp322 ht0 hvm hzz hH hS => ?_) (fun _ _ _ _ _ hz _ _ _ _ _ => by cases hz.1)
    obtain ⟨ho, hσ⟩ := hp322
    cases ho
    rw [hσ] at hH
    refine W.eq (g2 := F0 m 4 ls []) rfl ?_
    refine lv_iload_n x.1 x.2.1 dd_sg_register_4 rfl (lv_at hl 2 rfl) ?_
    refine lv_iconst (v := nI 1) x.1 x.2.1 dd_sg_register_5 (by decide +kernel) ?_
    refine lv_bipush (v := nI 12) x.1 x.2.1 dd_sg_register_6 (by decide +kernel) ?_
    by_cases hq1 : k1 < nI 1 ∨ nI 12 < k1
    · skip
      refine mp_call x (wt_mv base) hG hB hl.1 (mp_invS (av := [.int k1, .int (nI 1), .int (nI 12)]) x mn_sg_needWithin mc_sg_needWithin (Or.inl ww_379) ww_380 ww_54 rfl dd_sg_register_8) (kk_G_within_no hfl hq1) (Nat.le_trans (Nat.le_of_ble_eq_true rfl) hfr) (Nat.le_trans (Nat.le_of_ble_eq_true rfl) hlo) (Nat.le_trans (Nat.le_of_ble_eq_true rfl) hce) (Nat.le_trans (Nat.le_of_ble_eq_true rfl) hsl) hH hS (fun v σa t0 H locs hp323 ht0 hvm hzz hH hS => by obtain ⟨a, ho, -⟩ := hp323; cases ho) (fun a σa t0 H locs hp323 ht0 hvm hzz hH hS => ?_)
      obtain ⟨a, ho, hT, hσ⟩ := hp323
      cases ho
      rw [hσ] at hH
      exact mp_ro hlk hex (by decide) (by decide) hH hS hT ht0 hvm (fun t hT => ⟨a, rfl, hT, rfl⟩)
    · skip
      refine mp_call x (wt_mv base) hG hB hl.1 (mp_invS (av := [.int k1, .int (nI 1), .int (nI 12)]) x mn_sg_needWithin mc_sg_needWithin (Or.inl ww_379) ww_380 ww_54 rfl dd_sg_register_8) (kk_G_within_ok hfl hq1) (Nat.le_trans (Nat.le_of_ble_eq_true rfl) hfr) (Nat.le_trans (Nat.le_of_ble_eq_true rfl) hlo) (Nat.le_trans (Nat.le_of_ble_eq_true rfl) hce) (Nat.le_trans (Nat.le_of_ble_eq_true rfl) hsl) hH hS (fun v σa t0 H locs hp324 ht0 hvm hzz hH hS => ?_) (fun _ _ _ _ _ hz _ _ _ _ _ => by cases hz.1)
      obtain ⟨ho, hσ⟩ := hp324
      cases ho
      rw [hσ] at hH
      refine W.eq (g2 := F0 m 11 ls []) rfl ?_
      refine lv_iload_n x.1 x.2.1 dd_sg_register_11 rfl (lv_at hl 3 rfl) ?_
      refine lv_iconst (v := nI 0) x.1 x.2.1 dd_sg_register_12 (by decide +kernel) ?_
      refine lv_bipush (v := nI 90) x.1 x.2.1 dd_sg_register_13 (by decide +kernel) ?_
      by_cases hq2 : k2 < nI 0 ∨ nI 90 < k2
      · skip
        refine mp_call x (wt_mv base) hG hB hl.1 (mp_invS (av := [.int k2, .int (nI 0), .int (nI 90)]) x mn_sg_needWithin mc_sg_needWithin (Or.inl ww_379) ww_380 ww_54 rfl dd_sg_register_15) (kk_G_within_no hfl hq2) (Nat.le_trans (Nat.le_of_ble_eq_true rfl) hfr) (Nat.le_trans (Nat.le_of_ble_eq_true rfl) hlo) (Nat.le_trans (Nat.le_of_ble_eq_true rfl) hce) (Nat.le_trans (Nat.le_of_ble_eq_true rfl) hsl) hH hS (fun v σa t0 H locs hp325 ht0 hvm hzz hH hS => by obtain ⟨a, ho, -⟩ := hp325; cases ho) (fun a σa t0 H locs hp325 ht0 hvm hzz hH hS => ?_)
        obtain ⟨a, ho, hT, hσ⟩ := hp325
        cases ho
        rw [hσ] at hH
        exact mp_ro hlk hex (by decide) (by decide) hH hS hT ht0 hvm (fun t hT => ⟨a, rfl, hT, rfl⟩)
      · skip
        exact (hQ.elim hq0 (fun z => z.elim hq1 hq2)).elim
set_option maxRecDepth 100000 in
set_option maxHeartbeats 4000000 in
theorem kk_X_register_2 {l : Launch} {D : va_G} {ar : Nat → ClassId} {base : Nat} {σ : mp_M} {ad : Nat → Nat → Nat} {rg : Nat → Bool} {pl : Nat → Nat} {V M : fV} {b0 c1 c2 : Nat} (hL : Lay ar ad rg pl V M σ) (hfl : l.flags = flags0) (hb : b0 < 20) (hc1 : 1 ≤ c1) (hc2 : c1 ≤ 12) (hc3 : c2 ≤ 90) (hg : rg b0 = true) : CN l D ar base yy_sg_register prog_1_method_2_code 4 (Option.none : Option Jvm.ClassFile.FieldType) [] 7 96 6 36 [.ref (ad 0 0), .int (nI b0), .int (nI c1), .int (nI c2)] σ (fun o σ' t => ∃ a, o = .threw a ∧ mp_T mp_ise a t ∧ σ' = σ) := by
  refine mp_in (Nat.le_of_ble_eq_true rfl) ?_
  intro p e R s m below meth c x hfr hlo hce hsl hr hlk hin hex hG hB ls H hH0 hH hS hl
  have hl : lv_has ls 4 [(0, .ref (ad 0 0)), (1, .int (nI b0)), (2, .int (nI c1)), (3, .int (nI c2))] := hl
  refine lv_iload_n x.1 x.2.1 dd_sg_register_0 rfl (lv_at hl 1 rfl) ?_
  refine mp_call x (wt_mv base) hG hB hl.1 (mp_invS (av := [.int (nI b0)]) x mn_sg_needPrescription mc_sg_needPrescription (Or.inl ww_309) ww_310 ww_54 rfl dd_sg_register_1) (kk_G_pres_ok hfl (in_ok (by omega) (by decide))) (Nat.le_trans (Nat.le_of_ble_eq_true rfl) hfr) (Nat.le_trans (Nat.le_of_ble_eq_true rfl) hlo) (Nat.le_trans (Nat.le_of_ble_eq_true rfl) hce) (Nat.le_trans (Nat.le_of_ble_eq_true rfl) hsl) hH hS (fun v σa t0 H locs hp326 ht0 hvm hzz hH hS => ?_) (fun _ _ _ _ _ hz _ _ _ _ _ => by cases hz.1)
  obtain ⟨ho, hσ⟩ := hp326
  cases ho
  rw [hσ] at hH
  refine W.eq (g2 := F0 m 4 ls []) rfl ?_
  refine lv_iload_n x.1 x.2.1 dd_sg_register_4 rfl (lv_at hl 2 rfl) ?_
  refine lv_iconst (v := nI 1) x.1 x.2.1 dd_sg_register_5 (by decide +kernel) ?_
  refine lv_bipush (v := nI 12) x.1 x.2.1 dd_sg_register_6 (by decide +kernel) ?_
  refine mp_call x (wt_mv base) hG hB hl.1 (mp_invS (av := [.int (nI c1), .int (nI 1), .int (nI 12)]) x mn_sg_needWithin mc_sg_needWithin (Or.inl ww_379) ww_380 ww_54 rfl dd_sg_register_8) (kk_G_within_ok hfl (wi_ok (by omega) (by omega) (by decide))) (Nat.le_trans (Nat.le_of_ble_eq_true rfl) hfr) (Nat.le_trans (Nat.le_of_ble_eq_true rfl) hlo) (Nat.le_trans (Nat.le_of_ble_eq_true rfl) hce) (Nat.le_trans (Nat.le_of_ble_eq_true rfl) hsl) hH hS (fun v σa t0 H locs hp327 ht0 hvm hzz hH hS => ?_) (fun _ _ _ _ _ hz _ _ _ _ _ => by cases hz.1)
  obtain ⟨ho, hσ⟩ := hp327
  cases ho
  rw [hσ] at hH
  refine W.eq (g2 := F0 m 11 ls []) rfl ?_
  refine lv_iload_n x.1 x.2.1 dd_sg_register_11 rfl (lv_at hl 3 rfl) ?_
  refine lv_iconst (v := nI 0) x.1 x.2.1 dd_sg_register_12 (by decide +kernel) ?_
  refine lv_bipush (v := nI 90) x.1 x.2.1 dd_sg_register_13 (by decide +kernel) ?_
  refine mp_call x (wt_mv base) hG hB hl.1 (mp_invS (av := [.int (nI c2), .int (nI 0), .int (nI 90)]) x mn_sg_needWithin mc_sg_needWithin (Or.inl ww_379) ww_380 ww_54 rfl dd_sg_register_15) (kk_G_within_ok hfl (wi_ok (by omega) (by omega) (by decide))) (Nat.le_trans (Nat.le_of_ble_eq_true rfl) hfr) (Nat.le_trans (Nat.le_of_ble_eq_true rfl) hlo) (Nat.le_trans (Nat.le_of_ble_eq_true rfl) hce) (Nat.le_trans (Nat.le_of_ble_eq_true rfl) hsl) hH hS (fun v σa t0 H locs hp328 ht0 hvm hzz hH hS => ?_) (fun _ _ _ _ _ hz _ _ _ _ _ => by cases hz.1)
  obtain ⟨ho, hσ⟩ := hp328
  cases ho
  rw [hσ] at hH
  refine W.eq (g2 := F0 m 18 ls []) rfl ?_
  refine lv_aload_n x.1 x.2.1 dd_sg_register_18 rfl (lv_at hl 0 rfl) ?_
  refine mp_get x hH (la0 hL) fg_sg_11 rfl dd_sg_register_19 ?_
  refine lv_iload_n x.1 x.2.1 dd_sg_register_22 rfl (lv_at hl 1 rfl) ?_
  refine kps_ld x hH hL (j := b0) (by omega) hg dd_sg_register_23 ?_
  refine lv_ifnull x.1 x.2.1 dd_sg_register_24 ?_
  exact kx_throw x hG hB hl.1 hfl hlk hex (cls := mp_ise) (tx := "the prescription is registered already") (by decide +kernel) ww_383 ww_384 ww_65 mp_own_ise rfl (by decide +kernel) dd_sg_register_27 dd_sg_register_30 dd_sg_register_31 dd_sg_register_33 dd_sg_register_36 (Nat.le_trans (Nat.le_of_ble_eq_true rfl) hfr) (Nat.le_trans (Nat.le_of_ble_eq_true rfl) hlo) (Nat.le_trans (Nat.le_of_ble_eq_true rfl) hce) (Nat.le_trans (Nat.le_of_ble_eq_true rfl) hsl) (by decide) (by decide) hH hS (fun t a hT => ⟨a, rfl, hT, rfl⟩)
set_option maxRecDepth 100000 in
set_option maxHeartbeats 4000000 in
theorem kk_X_register_0 {l : Launch} {D : va_G} {ar : Nat → ClassId} {base : Nat} {σ : mp_M} {ad : Nat → Nat → Nat} {rg : Nat → Bool} {pl : Nat → Nat} {V M : fV} {b0 c1 c2 : Nat} (hL : Lay ar ad rg pl V M σ) (hfl : l.flags = flags0) (hb : b0 < 20) (hc1 : 1 ≤ c1) (hc2 : c1 ≤ 12) (hc3 : c2 ≤ 90) (hg : rg b0 = false) : CN l D ar base yy_sg_register prog_1_method_2_code 4 (Option.none : Option Jvm.ClassFile.FieldType) [] 7 130 110 800 [.ref (ad 0 0), .int (nI b0), .int (nI c1), .int (nI c2)] σ (fun o σ' _ => o = .returned none ∧ ∃ ad' : Nat → Nat → Nat, Lay ar ad' (rgu rg b0) pl (rgV V b0 (nI c1) (nI c2)) M σ' ∧ ad' 0 0 = ad 0 0 ∧ ad' 13 0 = ad 13 0 ∧ ad' 15 0 = ad 15 0) := by
  refine mp_in (Nat.le_of_ble_eq_true rfl) ?_
  intro p e R s m below meth c x hfr hlo hce hsl hr hlk hin hex hG hB ls H hH0 hH hS hl
  have hl : lv_has ls 4 [(0, .ref (ad 0 0)), (1, .int (nI b0)), (2, .int (nI c1)), (3, .int (nI c2))] := hl
  refine lv_iload_n x.1 x.2.1 dd_sg_register_0 rfl (lv_at hl 1 rfl) ?_
  refine mp_call x (wt_mv base) hG hB hl.1 (mp_invS (av := [.int (nI b0)]) x mn_sg_needPrescription mc_sg_needPrescription (Or.inl ww_309) ww_310 ww_54 rfl dd_sg_register_1) (kk_G_pres_ok hfl (in_ok (by omega) (by decide))) (Nat.le_trans (Nat.le_of_ble_eq_true rfl) hfr) (Nat.le_trans (Nat.le_of_ble_eq_true rfl) hlo) (Nat.le_trans (Nat.le_of_ble_eq_true rfl) hce) (Nat.le_trans (Nat.le_of_ble_eq_true rfl) hsl) hH hS (fun v σa t0 H locs hp329 ht0 hvm hzz hH hS => ?_) (fun _ _ _ _ _ hz _ _ _ _ _ => by cases hz.1)
  obtain ⟨ho, hσ⟩ := hp329
  cases ho
  rw [hσ] at hH
  refine W.eq (g2 := F0 m 4 ls []) rfl ?_
  refine lv_iload_n x.1 x.2.1 dd_sg_register_4 rfl (lv_at hl 2 rfl) ?_
  refine lv_iconst (v := nI 1) x.1 x.2.1 dd_sg_register_5 (by decide +kernel) ?_
  refine lv_bipush (v := nI 12) x.1 x.2.1 dd_sg_register_6 (by decide +kernel) ?_
  refine mp_call x (wt_mv base) hG hB hl.1 (mp_invS (av := [.int (nI c1), .int (nI 1), .int (nI 12)]) x mn_sg_needWithin mc_sg_needWithin (Or.inl ww_379) ww_380 ww_54 rfl dd_sg_register_8) (kk_G_within_ok hfl (wi_ok (by omega) (by omega) (by decide))) (Nat.le_trans (Nat.le_of_ble_eq_true rfl) hfr) (Nat.le_trans (Nat.le_of_ble_eq_true rfl) hlo) (Nat.le_trans (Nat.le_of_ble_eq_true rfl) hce) (Nat.le_trans (Nat.le_of_ble_eq_true rfl) hsl) hH hS (fun v σa t0 H locs hp330 ht0 hvm hzz hH hS => ?_) (fun _ _ _ _ _ hz _ _ _ _ _ => by cases hz.1)
  obtain ⟨ho, hσ⟩ := hp330
  cases ho
  rw [hσ] at hH
  refine W.eq (g2 := F0 m 11 ls []) rfl ?_
  refine lv_iload_n x.1 x.2.1 dd_sg_register_11 rfl (lv_at hl 3 rfl) ?_
  refine lv_iconst (v := nI 0) x.1 x.2.1 dd_sg_register_12 (by decide +kernel) ?_
  refine lv_bipush (v := nI 90) x.1 x.2.1 dd_sg_register_13 (by decide +kernel) ?_
  refine mp_call x (wt_mv base) hG hB hl.1 (mp_invS (av := [.int (nI c2), .int (nI 0), .int (nI 90)]) x mn_sg_needWithin mc_sg_needWithin (Or.inl ww_379) ww_380 ww_54 rfl dd_sg_register_15) (kk_G_within_ok hfl (wi_ok (by omega) (by omega) (by decide))) (Nat.le_trans (Nat.le_of_ble_eq_true rfl) hfr) (Nat.le_trans (Nat.le_of_ble_eq_true rfl) hlo) (Nat.le_trans (Nat.le_of_ble_eq_true rfl) hce) (Nat.le_trans (Nat.le_of_ble_eq_true rfl) hsl) hH hS (fun v σa t0 H locs hp331 ht0 hvm hzz hH hS => ?_) (fun _ _ _ _ _ hz _ _ _ _ _ => by cases hz.1)
  obtain ⟨ho, hσ⟩ := hp331
  cases ho
  rw [hσ] at hH
  refine W.eq (g2 := F0 m 18 ls []) rfl ?_
  refine lv_aload_n x.1 x.2.1 dd_sg_register_18 rfl (lv_at hl 0 rfl) ?_
  refine mp_get x hH (la0 hL) fg_sg_11 rfl dd_sg_register_19 ?_
  refine lv_iload_n x.1 x.2.1 dd_sg_register_22 rfl (lv_at hl 1 rfl) ?_
  refine kps_ldN x hH hL (j := b0) (by omega) hg dd_sg_register_23 ?_
  refine lv_ifnullN (tgt := 37) x.1 x.2.1 dd_sg_register_24 (by decide) ?_
  refine lv_aload_n x.1 x.2.1 dd_sg_register_37 rfl (lv_at hl 0 rfl) ?_
  refine mp_get x hH (la0 hL) fg_sg_11 rfl dd_sg_register_38 ?_
  refine lv_iload_n x.1 x.2.1 dd_sg_register_41 rfl (lv_at hl 1 rfl) ?_
  refine mn_new (ci := 5) (fs := [.int 0, .int 0, .null]) x hH hS hB cf_ps co_ps ci_ps ww_77 ww_399 ww_66 rfl df_ps (Nat.le_trans (Nat.le_of_ble_eq_true rfl) hce) (Nat.le_trans (Nat.le_of_ble_eq_true rfl) hsl) dd_sg_register_42 (fun q7 σ1 z7 f7 o7 H hH hS => ?_)
  have hP := Lay_rgV (c1 := nI c1) (c2 := nI c2) hb hg hL
  have n7 := NOT_new hP z7
  have hP1 := LayP_keep hP (fun kd i hl => o7 _ (n7 kd i hl))
  refine lv_dup x.1 x.2.1 dd_sg_register_45 rfl ?_
  refine lv_iload_n x.1 x.2.1 dd_sg_register_46 rfl (lv_at hl 1 rfl) ?_
  refine lv_iload_n x.1 x.2.1 dd_sg_register_47 rfl (lv_at hl 2 rfl) ?_
  refine lv_iload_n x.1 x.2.1 dd_sg_register_48 rfl (lv_at hl 3 rfl) ?_
  refine mp_call x (wt_mv base) hG hB hl.1 (mp_invI (av := [.int (nI b0), .int (nI c1), .int (nI c2)]) x mn_ps_init rfl ww_402 (Or.inr ⟨_, ww_400⟩) ww_401 rfl dd_sg_register_49) (kk_ps_init f7 hP1 n7 (RG_no hb hg) (RG_rf hb hg) (fun t ht => DV_rgV hb ht) hb) (Nat.le_trans (Nat.le_of_ble_eq_true rfl) hfr) (Nat.le_trans (Nat.le_of_ble_eq_true rfl) hlo) (Nat.le_trans (Nat.le_of_ble_eq_true rfl) hce) (Nat.le_trans (Nat.le_of_ble_eq_true rfl) hsl) hH hS (fun v σa t0 H locs hp ht0 hvm hzz hH hS => ?_) (fun _ _ _ _ _ hz _ _ _ _ _ => by cases hz.1)
  obtain ⟨ho, ad', q8, P3, A3, n7', n8', n87, c7, c8, o3⟩ := hp
  cases ho
  refine W.eq (g2 := F0 m 52 ls [.ref q7, .int (nI b0), .ref (ad 1 0)]) rfl ?_
  have e1 : ad' 1 0 = ad 1 0 := A3 1 0 (LvG (by decide))
  have f1 : σa (ad' 1 0) = some (.inl (ar 3, 20, .inr (.inr (.inr (.inr (fun q => if rg q = true then some (ad' 7 q) else none)))))) := P3.1 1 0 (Or.inl (LvG (by decide)))
  rw [e1] at f1
  refine mn_aast x hH hS 3 rfl rfl f1 c7 (vp_in_nI hb (by decide)) dd_sg_register_52 (fun σ4 f4 o4 H locs hH hS => ?_)
  rw [nI_clamp (by omega), ← e1] at f4
  rw [← e1] at o4
  have fin := Lay_reg hb hg P3 n7' n8' n87 c7 c8 f4 o4
  exact mp_rv x hr hlk (by decide) (by decide) hH hS (fun _ => ⟨rfl, _, fin, (adu_o (by omega)).trans ((adu_o (by omega)).trans (A3 0 0 (LvG (by decide)))), (adu_o (by omega)).trans ((adu_o (by omega)).trans (A3 13 0 LvM)), (adu_o (by omega)).trans ((adu_o (by omega)).trans (A3 15 0 LvO))⟩) dd_sg_register_53
