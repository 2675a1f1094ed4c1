-- jm_max
set_option maxRecDepth 100000 in
set_option maxHeartbeats 4000000 in
theorem kk_jm_max {l : Launch} {D : va_G} {ar : Nat → ClassId} {base : Nat} {σ : mp_M} {k j : Int32}   : CN l D ar base yy_jm_max prog_14_method_65_code 2 (Option.some Jvm.ClassFile.FieldType.int) [] 0 0 0 0 [.int k, .int j] σ (fun o σ' _ => o = .returned (some (.int (if k < j then j else k))) ∧ σ' = σ) := by
  refine mp_in (Nat.le_of_ble_eq_true rfl) ?_
  intro p e R s m below meth c x hfr hlo hce hsl hr hlk hin hex hG hB ls H hH0 hH hS hl
  have hl : lv_has ls 2 [(0, .int k), (1, .int j)] := hl
  refine lv_iload_n x.1 x.2.1 dd_jm_max_0 rfl (lv_at hl 0 rfl) ?_
  refine lv_iload_n x.1 x.2.1 dd_jm_max_1 rfl (lv_at hl 1 rfl) ?_
  refine lv_icmp_lt (tgt := 9) x.1 x.2.1 dd_jm_max_2 (by decide) (fun c82 => ?_) (fun c82 => ?_)
  · refine lv_iload_n x.1 x.2.1 dd_jm_max_9 rfl (lv_at hl 1 rfl) ?_
    exact mp_ri x hr hlk (by decide) (by decide) hH hS (fun _ => ⟨(congrArg (fun z => Outcome.returned (some (.int z))) (by simp [c82])), rfl⟩) dd_jm_max_10
  · refine lv_iload_n x.1 x.2.1 dd_jm_max_5 rfl (lv_at hl 0 rfl) ?_
    refine lv_goto (tgt := 10) x.1 x.2.1 dd_jm_max_6 (by decide) ?_
    exact mp_ri x hr hlk (by decide) (by decide) hH hS (fun _ => ⟨(congrArg (fun z => Outcome.returned (some (.int z))) (by simp [c82])), rfl⟩) dd_jm_max_10
-- ak_hearRefusal
set_option maxRecDepth 100000 in
set_option maxHeartbeats 4000000 in
theorem kk_ak_hearRefusal {l : Launch} {D : va_G} {ar : Nat → ClassId} {base : Nat} {σ : mp_M} {a : Nat} {x0 x1 x2 x3 x4 x5 x6 x7 : Int32} {b kn : Nat} {y1 y2 y3 y4 y5 y6 y7 y8 : Int32} (h0 : σ a = some (.inr (0, [.int x0, .int x1, .int x2, .int x3, .int x4, .int x5, .int x6, .int x7]))) (h1 : σ b = some (.inr (2, [.ref kn, .int y1, .int y2, .int y3, .int y4, .int y5, .int y6, .int y7, .int y8])))  : CN l D ar base yy_ak_hearRefusal prog_2_method_10_code 2 (Option.none : Option Jvm.ClassFile.FieldType) [] 1 14 0 0 [.ref a, .ref b] σ (fun o σ' _ => o = .returned none ∧ σ' a = some (.inr (0, [.int x0, .int x1, .int x2, .int x3, .int x4, .int (if (¬ x3 = 0 ∧ y5 = x0) then (if x5 < y7 then y7 else x5) else x5), .int x6, .int x7])) ∧ ∀ q, q ≠ a → σ' q = σ q) := by
  refine mp_in (Nat.le_of_ble_eq_true rfl) ?_
  intro p e R s m below meth c x hfr hlo hce hsl hr hlk hin hex hG hB ls H hH0 hH hS hl
  have hl : lv_has ls 2 [(0, .ref a), (1, .ref b)] := hl
  refine lv_aload_n x.1 x.2.1 dd_ak_hearRefusal_0 rfl (lv_at hl 0 rfl) ?_
  refine mp_call x (wt_mv base) hG hB hl.1 (mp_invV (av := []) x hH h0 rfl rfl mn_ak_runs mc_ak_runs (Or.inl ww_603) ww_523 ww_20 rfl dd_ak_hearRefusal_1) (kk_ak_runs h0) (Nat.le_trans (Nat.le_of_ble_eq_true rfl) hfr) (Nat.le_trans (Nat.le_of_ble_eq_true rfl) hlo) (Nat.le_trans (Nat.le_of_ble_eq_true rfl) hce) (Nat.le_trans (Nat.le_of_ble_eq_true rfl) hsl) hH hS (fun v σa t H locs hp83 ht hvm hz hH hS => ?_) (fun _ _ _ _ _ hz _ _ _ _ _ => by cases hz.1)
  obtain ⟨ho, hσ⟩ := hp83
  cases ho
  rw [hσ] at hH
  refine W.eq (g2 := F0 m 4 ls [.int (if x3 = 0 then nI 0 else nI 1)]) rfl ?_
  refine lv_if_eq (tgt := 33) x.1 x.2.1 dd_ak_hearRefusal_4 (by decide) (fun c84 => ?_) (fun c84 => ?_)
  · exact mp_rv x hr hlk (by decide) (by decide) hH hS (fun _ => ⟨rfl, (h0.trans (congrArg some (by rw [if_neg (fun z => by rw [if_neg z.1] at c84; exact absurd c84 (by decide +kernel))]))), fun _ _ => rfl⟩) dd_ak_hearRefusal_33
  · refine lv_aload_n x.1 x.2.1 dd_ak_hearRefusal_7 rfl (lv_at hl 1 rfl) ?_
    refine mp_get x hH h1 fg_ak_42 rfl dd_ak_hearRefusal_8 ?_
    refine lv_aload_n x.1 x.2.1 dd_ak_hearRefusal_11 rfl (lv_at hl 0 rfl) ?_
    refine mp_get x hH h0 fg_ak_18 rfl dd_ak_hearRefusal_12 ?_
    refine lv_icmp_ne (tgt := 33) x.1 x.2.1 dd_ak_hearRefusal_15 (by decide) (fun c85 => ?_) (fun c85 => ?_)
    · exact mp_rv x hr hlk (by decide) (by decide) hH hS (fun _ => ⟨rfl, (h0.trans (congrArg some (by rw [if_neg (fun z => c85 z.2)]))), fun _ _ => rfl⟩) dd_ak_hearRefusal_33
    · refine lv_aload_n x.1 x.2.1 dd_ak_hearRefusal_18 rfl (lv_at hl 0 rfl) ?_
      refine lv_aload_n x.1 x.2.1 dd_ak_hearRefusal_19 rfl (lv_at hl 0 rfl) ?_
      refine mp_get x hH h0 fg_ak_27 rfl dd_ak_hearRefusal_20 ?_
      refine lv_aload_n x.1 x.2.1 dd_ak_hearRefusal_23 rfl (lv_at hl 1 rfl) ?_
      refine mp_get x hH h1 fg_ak_49 rfl dd_ak_hearRefusal_24 ?_
      refine mp_call x (wt_mv base) hG hB hl.1 (mp_invS (av := [.int x5, .int y7]) x mn_jm_max mc_jm_max (Or.inl ww_604) ww_476 ww_67 rfl dd_ak_hearRefusal_27) (kk_jm_max) (Nat.le_trans (Nat.le_of_ble_eq_true rfl) hfr) (Nat.le_trans (Nat.le_of_ble_eq_true rfl) hlo) (Nat.le_trans (Nat.le_of_ble_eq_true rfl) hce) (Nat.le_trans (Nat.le_of_ble_eq_true rfl) hsl) hH hS (fun v σa t H locs hp86 ht hvm hz hH hS => ?_) (fun _ _ _ _ _ hz _ _ _ _ _ => by cases hz.1)
      obtain ⟨ho, hσ⟩ := hp86
      cases ho
      rw [hσ] at hH
      refine W.eq (g2 := F0 m 30 ls [.int (if x5 < y7 then y7 else x5), .ref a]) rfl ?_
      refine mn_put x hH hS h0 fp_ak_27 rfl rfl (Nat.le_of_ble_eq_true rfl) (fs' := [.int x0, .int x1, .int x2, .int x3, .int x4, .int (if x5 < y7 then y7 else x5), .int x6, .int x7]) rfl dd_ak_hearRefusal_30 (fun σ89 f87 o88 H locs hH hS => ?_)
      have f90 := (o88 _ (mp_neC h1 h0 (by decide))).trans h1
      exact mp_rv x hr hlk (by decide) (by decide) hH hS (fun _ => ⟨rfl, (f87.trans (congrArg some (by rw [if_pos ⟨fun z => c84 (if_pos z), c85⟩]))), fun q z0 => (o88 q z0)⟩) dd_ak_hearRefusal_33
-- pr_of
set_option maxRecDepth 100000 in
set_option maxHeartbeats 4000000 in
theorem kk_pr_of {l : Launch} {D : va_G} {ar : Nat → ClassId} {base : Nat} {σ : mp_M} {a b nc : Nat} {f : Nat → Int32} {j : Nat} (h0 : σ a = some (.inr (4, [.ref b, .int (nI nc)]))) (h1 : σ b = some (.inl (ar 0, 12, .inl f))) (hc : nc ≤ 12) (hj : j ≤ 12) : CN l D ar base yy_pr_of prog_6_method_2_code 2 (Option.some Jvm.ClassFile.FieldType.int) [] 0 0 0 0 [.ref a, .int (nI j)] σ (fun o σ' _ => o = .returned (some (.int (if j = 0 ∨ nc < j then (-1) else f (j - 1)))) ∧ σ' = σ) := by
  refine mp_in (Nat.le_of_ble_eq_true rfl) ?_
  intro p e R s m below meth c x hfr hlo hce hsl hr hlk hin hex hG hB ls H hH0 hH hS hl
  have hl : lv_has ls 2 [(0, .ref a), (1, .int (nI j))] := hl
  refine lv_iload_n x.1 x.2.1 dd_pr_of_0 rfl (lv_at hl 1 rfl) ?_
  refine lv_iconst (v := nI 1) x.1 x.2.1 dd_pr_of_1 (by decide +kernel) ?_
  refine lv_icmp_lt (tgt := 13) x.1 x.2.1 dd_pr_of_2 (by decide) (fun c91 => ?_) (fun c91 => ?_)
  · have c91 : j < 1 := (cv_lt (a := j) (b := 1) (by omega) (by omega)).mp c91
    refine lv_iconst (v := (-1)) x.1 x.2.1 dd_pr_of_13 (by decide +kernel) ?_
    refine lv_goto (tgt := 25) x.1 x.2.1 dd_pr_of_14 (by decide) ?_
    exact mp_ri x hr hlk (by decide) (by decide) hH hS (fun _ => ⟨(congrArg (fun z => Outcome.returned (some (.int z))) ((if_pos (by omega)).symm)), rfl⟩) dd_pr_of_25
  · have c91 : ¬ (j < 1) := fun h => c91 ((cv_lt (a := j) (b := 1) (by omega) (by omega)).mpr h)
    refine lv_iload_n x.1 x.2.1 dd_pr_of_5 rfl (lv_at hl 1 rfl) ?_
    refine lv_aload_n x.1 x.2.1 dd_pr_of_6 rfl (lv_at hl 0 rfl) ?_
    refine mp_get x hH h0 fg_pr_15 rfl dd_pr_of_7 ?_
    refine lv_icmp_le (tgt := 17) x.1 x.2.1 dd_pr_of_10 (by decide) (fun c92 => ?_) (fun c92 => ?_)
    · have c92 : j ≤ nc := (cv_le (a := j) (b := nc) (by omega) (by omega)).mp c92
      refine lv_aload_n x.1 x.2.1 dd_pr_of_17 rfl (lv_at hl 0 rfl) ?_
      refine mp_get x hH h0 fg_pr_9 rfl dd_pr_of_18 ?_
      refine lv_iload_n x.1 x.2.1 dd_pr_of_21 rfl (lv_at hl 1 rfl) ?_
      refine lv_iconst (v := nI 1) x.1 x.2.1 dd_pr_of_22 (by decide +kernel) ?_
      refine lv_isub x.1 x.2.1 dd_pr_of_23 ?_
      refine mn_top (w := nI (j - 1)) (pk_sub (by omega)) ?_
      refine mn_ald x hH h1 (j := (j - 1)) (by omega) (by decide) dd_pr_of_24 ?_
      exact mp_ri x hr hlk (by decide) (by decide) hH hS (fun _ => ⟨(congrArg (fun z => Outcome.returned (some (.int z))) ((if_neg (by omega)).symm)), rfl⟩) dd_pr_of_25
    · have c92 : ¬ (j ≤ nc) := fun h => c92 ((cv_le (a := j) (b := nc) (by omega) (by omega)).mpr h)
      refine lv_iconst (v := (-1)) x.1 x.2.1 dd_pr_of_13 (by decide +kernel) ?_
      refine lv_goto (tgt := 25) x.1 x.2.1 dd_pr_of_14 (by decide) ?_
      exact mp_ri x hr hlk (by decide) (by decide) hH hS (fun _ => ⟨(congrArg (fun z => Outcome.returned (some (.int z))) ((if_pos (by omega)).symm)), rfl⟩) dd_pr_of_25
-- pr_last
set_option maxRecDepth 100000 in
set_option maxHeartbeats 4000000 in
theorem kk_pr_last {l : Launch} {D : va_G} {ar : Nat → ClassId} {base : Nat} {σ : mp_M} {a b nc : Nat} {f : Nat → Int32} (h0 : σ a = some (.inr (4, [.ref b, .int (nI nc)]))) (h1 : σ b = some (.inl (ar 0, 12, .inl f))) (hc : nc ≤ 12) : CN l D ar base yy_pr_last prog_6_method_3_code 1 (Option.some Jvm.ClassFile.FieldType.int) [] 1 13 0 0 [.ref a] σ (fun o σ' _ => o = .returned (some (.int (if nc = 0 then (-1) else f (nc - 1)))) ∧ σ' = σ) := by
  refine mp_in (Nat.le_of_ble_eq_true rfl) ?_
  intro p e R s m below meth c x hfr hlo hce hsl hr hlk hin hex hG hB ls H hH0 hH hS hl
  have hl : lv_has ls 1 [(0, .ref a)] := hl
  refine lv_aload_n x.1 x.2.1 dd_pr_last_0 rfl (lv_at hl 0 rfl) ?_
  refine lv_aload_n x.1 x.2.1 dd_pr_last_1 rfl (lv_at hl 0 rfl) ?_
  refine mp_get x hH h0 fg_pr_15 rfl dd_pr_last_2 ?_
  refine mp_call x (wt_mv base) hG hB hl.1 (mp_invV (av := [.int (nI nc)]) x hH h0 rfl rfl mn_pr_of mc_pr_of (Or.inl ww_448) ww_450 ww_7 rfl dd_pr_last_5) (kk_pr_of (j := nc) h0 h1 (by omega) (by omega)) (Nat.le_trans (Nat.le_of_ble_eq_true rfl) hfr) (Nat.le_trans (Nat.le_of_ble_eq_true rfl) hlo) (Nat.le_trans (Nat.le_of_ble_eq_true rfl) hce) (Nat.le_trans (Nat.le_of_ble_eq_true rfl) hsl) hH hS (fun v σa t H locs hp93 ht hvm hz hH hS => ?_) (fun _ _ _ _ _ hz _ _ _ _ _ => by cases hz.1)
  obtain ⟨ho, hσ⟩ := hp93
  cases ho
  rw [hσ] at hH
  refine W.eq (g2 := F0 m 8 ls [.int (if nc = 0 ∨ nc < nc then (-1) else f (nc - 1))]) rfl ?_
  exact mp_ri x hr hlk (by decide) (by decide) hH hS (fun _ => ⟨(congrArg (fun z => Outcome.returned (some (.int z))) (by simp)), rfl⟩) dd_pr_last_8
-- pr_add
set_option maxRecDepth 100000 in
set_option maxHeartbeats 4000000 in
theorem kk_pr_add {l : Launch} {D : va_G} {ar : Nat → ClassId} {base : Nat} {σ : mp_M} {a b nc : Nat} {f : Nat → Int32} {k : Int32} (h0 : σ a = some (.inr (4, [.ref b, .int (nI nc)]))) (h1 : σ b = some (.inl (ar 0, 12, .inl f))) (hc : nc < 12) : CN l D ar base yy_pr_add prog_6_method_4_code 2 (Option.none : Option Jvm.ClassFile.FieldType) [] 0 0 0 0 [.ref a, .int k] σ (fun o σ' _ => o = .returned none ∧ σ' a = some (.inr (4, [.ref b, .int (nI (nc + 1))])) ∧ σ' b = some (.inl (ar 0, 12, .inl (upd f nc k))) ∧ ∀ q, q ≠ a → q ≠ b → σ' q = σ q) := by
  refine mp_in (Nat.le_of_ble_eq_true rfl) ?_
  intro p e R s m below meth c x hfr hlo hce hsl hr hlk hin hex hG hB ls H hH0 hH hS hl
  have hl : lv_has ls 2 [(0, .ref a), (1, .int k)] := hl
  refine lv_aload_n x.1 x.2.1 dd_pr_add_0 rfl (lv_at hl 0 rfl) ?_
  refine mp_get x hH h0 fg_pr_15 rfl dd_pr_add_1 ?_
  refine lv_bipush (v := nI 12) x.1 x.2.1 dd_pr_add_4 (by decide +kernel) ?_
  refine lv_icmp_ge (tgt := 29) x.1 x.2.1 dd_pr_add_6 (by decide) (fun c94 => absurd c94 ((Nat.not_le.mpr hc) ∘ (cv_le (by decide) (by omega)).mp)) (fun c94 => ?_)
  refine lv_aload_n x.1 x.2.1 dd_pr_add_9 rfl (lv_at hl 0 rfl) ?_
  refine mp_get x hH h0 fg_pr_9 rfl dd_pr_add_10 ?_
  refine lv_aload_n x.1 x.2.1 dd_pr_add_13 rfl (lv_at hl 0 rfl) ?_
  refine mp_get x hH h0 fg_pr_15 rfl dd_pr_add_14 ?_
  refine lv_iload_n x.1 x.2.1 dd_pr_add_17 rfl (lv_at hl 1 rfl) ?_
  refine mn_ast x hH hS h1 (j := nc) (by omega) (by decide) dd_pr_add_18 (fun σ97 f95 o96 H locs hH hS => ?_)
  have f98 := (o96 _ (mp_neO h0 h1)).trans h0
  refine lv_aload_n x.1 x.2.1 dd_pr_add_19 rfl (lv_at hl 0 rfl) ?_
  refine lv_dup x.1 x.2.1 dd_pr_add_20 rfl ?_
  refine mp_get x hH f98 fg_pr_15 rfl dd_pr_add_21 ?_
  refine lv_iconst (v := nI 1) x.1 x.2.1 dd_pr_add_24 (by decide +kernel) ?_
  refine lv_iadd x.1 x.2.1 dd_pr_add_25 ?_
  refine mn_top (w := nI (nc + 1)) (nI_add _ _) ?_
  refine mn_put x hH hS f98 fp_pr_15 rfl rfl (Nat.le_of_ble_eq_true rfl) (fs' := [.ref b, .int (nI (nc + 1))]) rfl dd_pr_add_26 (fun σ101 f99 o100 H locs hH hS => ?_)
  have f102 := (o100 _ (mp_neA f95 f98)).trans f95
  exact mp_rv x hr hlk (by decide) (by decide) hH hS (fun _ => ⟨rfl, f99, f102, fun q z0 z1 => ((o100 q z0).trans (o96 q z1))⟩) dd_pr_add_29
