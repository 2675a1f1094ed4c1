/-! CONSTRUCTORS at the store. -/
theorem df_ak : ∀ j, j < 8 → defaultValue (cf_ak j) = vp_V [.int 0, .int 0, .int 0, .int 0, .int 0, .int 0, .int 0, .int 0] j := by
  intro j hj
  have h : j = 0 ∨ j = 1 ∨ j = 2 ∨ j = 3 ∨ j = 4 ∨ j = 5 ∨ j = 6 ∨ j = 7 := by omega
  rcases h with rfl | rfl | rfl | rfl | rfl | rfl | rfl | rfl <;> rfl
theorem df_dk : ∀ j, j < 8 → defaultValue (cf_dk j) = vp_V [.int 0, .int 0, .null, .null, .int 0, .int 0, .int 0, .int 0] j := by
  intro j hj
  have h : j = 0 ∨ j = 1 ∨ j = 2 ∨ j = 3 ∨ j = 4 ∨ j = 5 ∨ j = 6 ∨ j = 7 := by omega
  rcases h with rfl | rfl | rfl | rfl | rfl | rfl | rfl | rfl <;> rfl
theorem df_lt : ∀ j, j < 9 → defaultValue (cf_lt j) = vp_V [.null, .int 0, .int 0, .int 0, .int 0, .int 0, .int 0, .int 0, .int 0] j := by
  intro j hj
  have h : j = 0 ∨ j = 1 ∨ j = 2 ∨ j = 3 ∨ j = 4 ∨ j = 5 ∨ j = 6 ∨ j = 7 ∨ j = 8 := by omega
  rcases h with rfl | rfl | rfl | rfl | rfl | rfl | rfl | rfl | rfl <;> rfl
theorem df_lr : ∀ j, j < 8 → defaultValue (cf_lr j) = vp_V [.null, .null, .null, .int 0, .int 0, .int 0, .int 0, .int 0] j := by
  intro j hj
  have h : j = 0 ∨ j = 1 ∨ j = 2 ∨ j = 3 ∨ j = 4 ∨ j = 5 ∨ j = 6 ∨ j = 7 := by omega
  rcases h with rfl | rfl | rfl | rfl | rfl | rfl | rfl | rfl <;> rfl
theorem df_pr : ∀ j, j < 2 → defaultValue (cf_pr j) = vp_V [.null, .int 0] j := by
  intro j hj
  have h : j = 0 ∨ j = 1 := by omega
  rcases h with rfl | rfl <;> rfl
theorem df_ps : ∀ j, j < 3 → defaultValue (cf_ps j) = vp_V [.int 0, .int 0, .null] j := by
  intro j hj
  have h : j = 0 ∨ j = 1 ∨ j = 2 := by omega
  rcases h with rfl | rfl | rfl <;> rfl
theorem df_sg : ∀ j, j < 4 → defaultValue (cf_sg j) = vp_V [.null, .null, .null, .int 0] j := by
  intro j hj
  have h : j = 0 ∨ j = 1 ∨ j = 2 ∨ j = 3 := by omega
  rcases h with rfl | rfl | rfl | rfl <;> rfl
theorem df_md : ∀ j, j < 28 → defaultValue (cf_md j) = vp_V [.null, .null, .null, .null, .null, .null, .null, .null, .null, .null, .null, .null, .null, .null, .null, .null, .null, .null, .null, .null, .null, .null, .int 0, .null, .int 0, .int 0, .int 0, .int 0] j := by
  intro j hj
  have h : j = 0 ∨ j = 1 ∨ j = 2 ∨ j = 3 ∨ j = 4 ∨ j = 5 ∨ j = 6 ∨ j = 7 ∨ j = 8 ∨ j = 9 ∨ j = 10 ∨ j = 11 ∨ j = 12 ∨ j = 13 ∨ j = 14 ∨ j = 15 ∨ j = 16 ∨ j = 17 ∨ j = 18 ∨ j = 19 ∨ j = 20 ∨ j = 21 ∨ j = 22 ∨ j = 23 ∨ j = 24 ∨ j = 25 ∨ j = 26 ∨ j = 27 := by omega
  rcases h with rfl | rfl | rfl | rfl | rfl | rfl | rfl | rfl | rfl | rfl | rfl | rfl | rfl | rfl | rfl | rfl | rfl | rfl | rfl | rfl | rfl | rfl | rfl | rfl | rfl | rfl | rfl | rfl <;> rfl
-- pr_init
set_option maxRecDepth 100000 in
set_option maxHeartbeats 4000000 in
theorem kk_pr_init {l : Launch} {D : va_G} {ar : Nat → ClassId} {base : Nat} {σ : mp_M} {a : Nat} (h0 : σ a = some (.inr (4, [.null, .int 0])))  : CN l D ar base yy_pr_init prog_6_method_1_code 1 (Option.none : Option Jvm.ClassFile.FieldType) [] 1 12 1 12 [.ref a] σ (fun o σ' _ => o = .returned none ∧ ∃ b1, σ b1 = none ∧ σ' a = some (.inr (4, [.ref b1, .int (nI 0)])) ∧ σ' b1 = some (.inl (ar 0, 12, .inl (fun _ => 0))) ∧ FRM a σ σ') := by
  refine mp_in (Nat.le_of_ble_eq_true rfl) ?_
  intro p e R s m below meth c x hfr hlo hce hsl hr hlk hin hex hG hB ls H hH0 hH hS hl
  have hl : lv_has ls 1 [(0, .ref a)] := hl
  have fr0 := @FRM_id σ a
  refine lv_aload_n x.1 x.2.1 dd_pr_init_0 rfl (lv_at hl 0 rfl) ?_
  refine W.objInit x.1 x.2.1 x.2.2.2.1 (x.2.2.2.2.1 _ ww_90) (x.2.2.2.2.1 _ ww_75) (x.2.2.2.2.1 _ ww_76) rfl (hl.1.trans x.2.2.1.symm) rfl dd_pr_init_1 (Nat.le_trans (Nat.le_of_ble_eq_true rfl) hfr) (Nat.le_trans (Nat.le_of_ble_eq_true rfl) hlo) ?_
  refine W.eq (g2 := F0 m 4 ls []) rfl ?_
  refine lv_aload_n x.1 x.2.1 dd_pr_init_4 rfl (lv_at hl 0 rfl) ?_
  refine lv_bipush (v := nI 12) x.1 x.2.1 dd_pr_init_5 (by decide +kernel) ?_
  refine mn_newi x hH hS hB ww_102 (by decide) (Nat.le_trans (Nat.le_of_ble_eq_true rfl) hce) (Nat.le_trans (Nat.le_of_ble_eq_true rfl) hsl) dd_pr_init_7 (fun q1 σ2 h3 f4 o5 H hH hS => ?_)
  have z6 := FRM_old fr0 h0 h3
  have ne7 := fr_ne h0 h3
  have f8 := (o5 _ (ne7)).trans h0
  have fr9 := FRM_N fr0 z6 o5
  refine mn_putF x hin hH hS f8 fq_pr_9 rfl rfl (Nat.le_of_ble_eq_true rfl) (fs' := [.ref q1, .int 0]) rfl dd_pr_init_9 (fun σ12 f10 o11 H locs hH hS => ?_)
  have f13 := (o11 _ (Ne.symm ne7)).trans f4
  have fr14 := FRM_A fr9 o11
  refine lv_aload_n x.1 x.2.1 dd_pr_init_12 rfl (lv_at hl 0 rfl) ?_
  refine lv_iconst (v := nI 0) x.1 x.2.1 dd_pr_init_13 (by decide +kernel) ?_
  refine mn_put x hH hS f10 fp_pr_15 rfl rfl (Nat.le_of_ble_eq_true rfl) (fs' := [.ref q1, .int (nI 0)]) rfl dd_pr_init_14 (fun σ17 f15 o16 H locs hH hS => ?_)
  have f18 := (o16 _ (Ne.symm ne7)).trans f13
  have fr19 := FRM_A fr14 o16
  exact mp_rv x hr hlk (by decide) (by decide) hH hS (fun _ => ⟨rfl, q1, z6, f15, f18, fr19⟩) dd_pr_init_17
-- lt_init
set_option maxRecDepth 100000 in
set_option maxHeartbeats 4000000 in
theorem kk_lt_init {l : Launch} {D : va_G} {ar : Nat → ClassId} {base : Nat} {σ : mp_M} {a : Nat} (h0 : σ a = some (.inr (2, [.null, .int 0, .int 0, .int 0, .int 0, .int 0, .int 0, .int 0, .int 0])))  : CN l D ar base yy_lt_init prog_4_method_1_code 1 (Option.none : Option Jvm.ClassFile.FieldType) [] 2 26 2 14 [.ref a] σ (fun o σ' _ => o = .returned none ∧ ∃ b1 b2, σ b1 = none ∧ σ b2 = none ∧ b2 ≠ b1 ∧ σ' a = some (.inr (2, [.ref b1, .int 0, .int 0, .int 0, .int 0, .int 0, .int 0, .int 0, .int (-1)])) ∧ σ' b1 = some (.inr (4, [.ref b2, .int (nI 0)])) ∧ σ' b2 = some (.inl (ar 0, 12, .inl (fun _ => 0))) ∧ FRM a σ σ') := by
  refine mp_in (Nat.le_of_ble_eq_true rfl) ?_
  intro p e R s m below meth c x hfr hlo hce hsl hr hlk hin hex hG hB ls H hH0 hH hS hl
  have hl : lv_has ls 1 [(0, .ref a)] := hl
  have fr0 := @FRM_id σ a
  refine lv_aload_n x.1 x.2.1 dd_lt_init_0 rfl (lv_at hl 0 rfl) ?_
  refine W.objInit x.1 x.2.1 x.2.2.2.1 (x.2.2.2.2.1 _ ww_196) (x.2.2.2.2.1 _ ww_75) (x.2.2.2.2.1 _ ww_76) rfl (hl.1.trans x.2.2.1.symm) rfl dd_lt_init_1 (Nat.le_trans (Nat.le_of_ble_eq_true rfl) hfr) (Nat.le_trans (Nat.le_of_ble_eq_true rfl) hlo) ?_
  refine W.eq (g2 := F0 m 4 ls []) rfl ?_
  refine lv_aload_n x.1 x.2.1 dd_lt_init_4 rfl (lv_at hl 0 rfl) ?_
  refine mn_new (ci := 4) (fs := [.null, .int 0]) x hH hS hB cf_pr co_pr ci_pr ww_197 ww_86 ww_56 rfl df_pr (Nat.le_trans (Nat.le_of_ble_eq_true rfl) hce) (Nat.le_trans (Nat.le_of_ble_eq_true rfl) hsl) dd_lt_init_5 (fun q20 σ21 h22 f23 o24 H hH hS => ?_)
  have z25 := FRM_old fr0 h0 h22
  have ne26 := fr_ne h0 h22
  have f27 := (o24 _ (ne26)).trans h0
  have fr28 := FRM_N fr0 z25 o24
  refine lv_dup x.1 x.2.1 dd_lt_init_8 rfl ?_
  refine mp_call x (wt_mv base) hG hB hl.1 (mp_invI (av := []) x mn_pr_init rfl ww_89 (Or.inr ⟨_, ww_198⟩) ww_88 rfl dd_lt_init_9) (kk_pr_init f23) (Nat.le_trans (Nat.le_of_ble_eq_true rfl) hfr) (Nat.le_trans (Nat.le_of_ble_eq_true rfl) hlo) (Nat.le_trans (Nat.le_of_ble_eq_true rfl) hce) (Nat.le_trans (Nat.le_of_ble_eq_true rfl) hsl) hH hS (fun v σa t H locs hp29 ht hvm hz hH hS => ?_) (fun _ _ _ _ _ hz _ _ _ _ _ => by cases hz.1)
  obtain ⟨ho, b30, h31, f32, f33, o34⟩ := hp29
  cases ho
  have z35 := FRM_old fr28 f27 h31
  have ne36 := fr_ne f27 h31
  have ne37 := fr_ne f23 h31
  have f38 := FRM_f o34 f27 (ne26)
  have fr39 := FRM_C fr28 z25 o34
  refine W.eq (g2 := F0 m 12 ls [.ref q20, .ref a]) rfl ?_
  refine mn_putF x hin hH hS f38 fq_lt_12 rfl rfl (Nat.le_of_ble_eq_true rfl) (fs' := [.ref q20, .int 0, .int 0, .int 0, .int 0, .int 0, .int 0, .int 0, .int 0]) rfl dd_lt_init_12 (fun σ42 f40 o41 H locs hH hS => ?_)
  have f43 := (o41 _ (Ne.symm ne26)).trans f32
  have f44 := (o41 _ (Ne.symm ne36)).trans f33
  have fr45 := FRM_A fr39 o41
  refine lv_aload_n x.1 x.2.1 dd_lt_init_15 rfl (lv_at hl 0 rfl) ?_
  refine lv_iconst (v := (-1)) x.1 x.2.1 dd_lt_init_16 (by decide +kernel) ?_
  refine mn_put x hH hS f40 fp_lt_18 rfl rfl (Nat.le_of_ble_eq_true rfl) (fs' := [.ref q20, .int 0, .int 0, .int 0, .int 0, .int 0, .int 0, .int 0, .int (-1)]) rfl dd_lt_init_17 (fun σ48 f46 o47 H locs hH hS => ?_)
  have f49 := (o47 _ (Ne.symm ne26)).trans f43
  have f50 := (o47 _ (Ne.symm ne36)).trans f44
  have fr51 := FRM_A fr45 o47
  exact mp_rv x hr hlk (by decide) (by decide) hH hS (fun _ => ⟨rfl, q20, b30, z25, z35, (Ne.symm ne37), f46, f49, f50, fr51⟩) dd_lt_init_20
-- dk_init
set_option maxRecDepth 100000 in
set_option maxHeartbeats 4000000 in
theorem kk_dk_init {l : Launch} {D : va_G} {ar : Nat → ClassId} {base : Nat} {σ : mp_M} {a : Nat} {k j : Int32} (h0 : σ a = some (.inr (1, [.int 0, .int 0, .null, .null, .int 0, .int 0, .int 0, .int 0])))  : CN l D ar base yy_dk_init prog_3_method_1_code 3 (Option.none : Option Jvm.ClassFile.FieldType) [] 3 38 3 22 [.ref a, .int k, .int j] σ (fun o σ' _ => o = .returned none ∧ ∃ b1 b2 b3, σ b1 = none ∧ σ b2 = none ∧ σ b3 = none ∧ b2 ≠ b1 ∧ b1 ≠ b3 ∧ b2 ≠ b3 ∧ σ' a = some (.inr (1, [.int k, .int j, .ref b1, .ref b3, .int (nI 0), .int (nI 0), .int (-1), .int (nI 0)])) ∧ σ' b1 = some (.inr (4, [.ref b2, .int (nI 0)])) ∧ σ' b2 = some (.inl (ar 0, 12, .inl (fun _ => 0))) ∧ σ' b3 = some (.inr (0, [.int (nI 0), .int (-1), .int (nI 0), .int (nI 0), .int (nI 0), .int (nI 0), .int (nI 0), .int (-1)])) ∧ FRM a σ σ') := by
  refine mp_in (Nat.le_of_ble_eq_true rfl) ?_
  intro p e R s m below meth c x hfr hlo hce hsl hr hlk hin hex hG hB ls H hH0 hH hS hl
  have hl : lv_has ls 3 [(0, .ref a), (1, .int k), (2, .int j)] := hl
  have fr0 := @FRM_id σ a
  refine lv_aload_n x.1 x.2.1 dd_dk_init_0 rfl (lv_at hl 0 rfl) ?_
  refine W.objInit x.1 x.2.1 x.2.2.2.1 (x.2.2.2.2.1 _ ww_84) (x.2.2.2.2.1 _ ww_75) (x.2.2.2.2.1 _ ww_76) rfl (hl.1.trans x.2.2.1.symm) rfl dd_dk_init_1 (Nat.le_trans (Nat.le_of_ble_eq_true rfl) hfr) (Nat.le_trans (Nat.le_of_ble_eq_true rfl) hlo) ?_
  refine W.eq (g2 := F0 m 4 ls []) rfl ?_
  refine lv_aload_n x.1 x.2.1 dd_dk_init_4 rfl (lv_at hl 0 rfl) ?_
  refine lv_iload_n x.1 x.2.1 dd_dk_init_5 rfl (lv_at hl 1 rfl) ?_
  refine mn_putF x hin hH hS h0 fq_dk_9 rfl rfl (Nat.le_of_ble_eq_true rfl) (fs' := [.int k, .int 0, .null, .null, .int 0, .int 0, .int 0, .int 0]) rfl dd_dk_init_6 (fun σ54 f52 o53 H locs hH hS => ?_)
  have fr55 := FRM_A fr0 o53
  refine lv_aload_n x.1 x.2.1 dd_dk_init_9 rfl (lv_at hl 0 rfl) ?_
  refine lv_iload_n x.1 x.2.1 dd_dk_init_10 rfl (lv_at hl 2 rfl) ?_
  refine mn_putF x hin hH hS f52 fq_dk_15 rfl rfl (Nat.le_of_ble_eq_true rfl) (fs' := [.int k, .int j, .null, .null, .int 0, .int 0, .int 0, .int 0]) rfl dd_dk_init_11 (fun σ58 f56 o57 H locs hH hS => ?_)
  have fr59 := FRM_A fr55 o57
  refine lv_aload_n x.1 x.2.1 dd_dk_init_14 rfl (lv_at hl 0 rfl) ?_
  refine mn_new (ci := 4) (fs := [.null, .int 0]) x hH hS hB cf_pr co_pr ci_pr ww_85 ww_86 ww_56 rfl df_pr (Nat.le_trans (Nat.le_of_ble_eq_true rfl) hce) (Nat.le_trans (Nat.le_of_ble_eq_true rfl) hsl) dd_dk_init_15 (fun q60 σ61 h62 f63 o64 H hH hS => ?_)
  have z65 := FRM_old fr59 f56 h62
  have ne66 := fr_ne f56 h62
  have f67 := (o64 _ (ne66)).trans f56
  have fr68 := FRM_N fr59 z65 o64
  refine lv_dup x.1 x.2.1 dd_dk_init_18 rfl ?_
  refine mp_call x (wt_mv base) hG hB hl.1 (mp_invI (av := []) x mn_pr_init rfl ww_89 (Or.inr ⟨_, ww_87⟩) ww_88 rfl dd_dk_init_19) (kk_pr_init f63) (Nat.le_trans (Nat.le_of_ble_eq_true rfl) hfr) (Nat.le_trans (Nat.le_of_ble_eq_true rfl) hlo) (Nat.le_trans (Nat.le_of_ble_eq_true rfl) hce) (Nat.le_trans (Nat.le_of_ble_eq_true rfl) hsl) hH hS (fun v σa t H locs hp69 ht hvm hz hH hS => ?_) (fun _ _ _ _ _ hz _ _ _ _ _ => by cases hz.1)
  obtain ⟨ho, b70, h71, f72, f73, o74⟩ := hp69
  cases ho
  have z75 := FRM_old fr68 f67 h71
  have ne76 := fr_ne f67 h71
  have ne77 := fr_ne f63 h71
  have f78 := FRM_f o74 f67 (ne66)
  have fr79 := FRM_C fr68 z65 o74
  refine W.eq (g2 := F0 m 22 ls [.ref q60, .ref a]) rfl ?_
  refine mn_putF x hin hH hS f78 fq_dk_21 rfl rfl (Nat.le_of_ble_eq_true rfl) (fs' := [.int k, .int j, .ref q60, .null, .int 0, .int 0, .int 0, .int 0]) rfl dd_dk_init_22 (fun σ82 f80 o81 H locs hH hS => ?_)
  have f83 := (o81 _ (Ne.symm ne66)).trans f72
  have f84 := (o81 _ (Ne.symm ne76)).trans f73
  have fr85 := FRM_A fr79 o81
  refine lv_aload_n x.1 x.2.1 dd_dk_init_25 rfl (lv_at hl 0 rfl) ?_
  refine mn_new (ci := 0) (fs := [.int 0, .int 0, .int 0, .int 0, .int 0, .int 0, .int 0, .int 0]) x hH hS hB cf_ak co_ak ci_ak ww_103 ww_104 ww_57 rfl df_ak (Nat.le_trans (Nat.le_of_ble_eq_true rfl) hce) (Nat.le_trans (Nat.le_of_ble_eq_true rfl) hsl) dd_dk_init_26 (fun q86 σ87 h88 f89 o90 H hH hS => ?_)
  have z91 := FRM_old fr85 f80 h88
  have ne92 := fr_ne f83 h88
  have ne93 := fr_ne f84 h88
  have ne94 := fr_ne f80 h88
  have f95 := (o90 _ (ne92)).trans f83
  have f96 := (o90 _ (ne93)).trans f84
  have f97 := (o90 _ (ne94)).trans f80
  have fr98 := FRM_N fr85 z91 o90
  refine lv_dup x.1 x.2.1 dd_dk_init_29 rfl ?_
  refine mp_call x (wt_mv base) hG hB hl.1 (mp_invI (av := []) x mn_ak_init rfl ww_107 (Or.inr ⟨_, ww_105⟩) ww_106 rfl dd_dk_init_30) (kk_ak_init f89) (Nat.le_trans (Nat.le_of_ble_eq_true rfl) hfr) (Nat.le_trans (Nat.le_of_ble_eq_true rfl) hlo) (Nat.le_trans (Nat.le_of_ble_eq_true rfl) hce) (Nat.le_trans (Nat.le_of_ble_eq_true rfl) hsl) hH hS (fun v σa t H locs hp99 ht hvm hz hH hS => ?_) (fun _ _ _ _ _ hz _ _ _ _ _ => by cases hz.1)
  obtain ⟨ho, f100, o101⟩ := hp99
  cases ho
  have f102 := (o101 _ (ne92)).trans f95
  have f103 := (o101 _ (ne93)).trans f96
  have f104 := (o101 _ (ne94)).trans f97
  have fr105 := FRM_N fr98 z91 o101
  refine W.eq (g2 := F0 m 33 ls [.ref q86, .ref a]) rfl ?_
  refine mn_putF x hin hH hS f104 fq_dk_28 rfl rfl (Nat.le_of_ble_eq_true rfl) (fs' := [.int k, .int j, .ref q60, .ref q86, .int 0, .int 0, .int 0, .int 0]) rfl dd_dk_init_33 (fun σ108 f106 o107 H locs hH hS => ?_)
  have f109 := (o107 _ (Ne.symm ne66)).trans f102
  have f110 := (o107 _ (Ne.symm ne76)).trans f103
  have f111 := (o107 _ (Ne.symm ne94)).trans f100
  have fr112 := FRM_A fr105 o107
  refine lv_aload_n x.1 x.2.1 dd_dk_init_36 rfl (lv_at hl 0 rfl) ?_
  refine lv_iconst (v := nI 0) x.1 x.2.1 dd_dk_init_37 (by decide +kernel) ?_
  refine mn_put x hH hS f106 fp_dk_32 rfl rfl (Nat.le_of_ble_eq_true rfl) (fs' := [.int k, .int j, .ref q60, .ref q86, .int (nI 0), .int 0, .int 0, .int 0]) rfl dd_dk_init_38 (fun σ115 f113 o114 H locs hH hS => ?_)
  have f116 := (o114 _ (Ne.symm ne66)).trans f109
  have f117 := (o114 _ (Ne.symm ne76)).trans f110
  have f118 := (o114 _ (Ne.symm ne94)).trans f111
  have fr119 := FRM_A fr112 o114
  refine lv_aload_n x.1 x.2.1 dd_dk_init_41 rfl (lv_at hl 0 rfl) ?_
  refine lv_iconst (v := nI 0) x.1 x.2.1 dd_dk_init_42 (by decide +kernel) ?_
  refine mn_put x hH hS f113 fp_dk_35 rfl rfl (Nat.le_of_ble_eq_true rfl) (fs' := [.int k, .int j, .ref q60, .ref q86, .int (nI 0), .int (nI 0), .int 0, .int 0]) rfl dd_dk_init_43 (fun σ122 f120 o121 H locs hH hS => ?_)
  have f123 := (o121 _ (Ne.symm ne66)).trans f116
  have f124 := (o121 _ (Ne.symm ne76)).trans f117
  have f125 := (o121 _ (Ne.symm ne94)).trans f118
  have fr126 := FRM_A fr119 o121
  refine lv_aload_n x.1 x.2.1 dd_dk_init_46 rfl (lv_at hl 0 rfl) ?_
  refine lv_iconst (v := (-1)) x.1 x.2.1 dd_dk_init_47 (by decide +kernel) ?_
  refine mn_put x hH hS f120 fp_dk_38 rfl rfl (Nat.le_of_ble_eq_true rfl) (fs' := [.int k, .int j, .ref q60, .ref q86, .int (nI 0), .int (nI 0), .int (-1), .int 0]) rfl dd_dk_init_48 (fun σ129 f127 o128 H locs hH hS => ?_)
  have f130 := (o128 _ (Ne.symm ne66)).trans f123
  have f131 := (o128 _ (Ne.symm ne76)).trans f124
  have f132 := (o128 _ (Ne.symm ne94)).trans f125
  have fr133 := FRM_A fr126 o128
  refine lv_aload_n x.1 x.2.1 dd_dk_init_51 rfl (lv_at hl 0 rfl) ?_
  refine lv_iconst (v := nI 0) x.1 x.2.1 dd_dk_init_52 (by decide +kernel) ?_
  refine mn_put x hH hS f127 fp_dk_41 rfl rfl (Nat.le_of_ble_eq_true rfl) (fs' := [.int k, .int j, .ref q60, .ref q86, .int (nI 0), .int (nI 0), .int (-1), .int (nI 0)]) rfl dd_dk_init_53 (fun σ136 f134 o135 H locs hH hS => ?_)
  have f137 := (o135 _ (Ne.symm ne66)).trans f130
  have f138 := (o135 _ (Ne.symm ne76)).trans f131
  have f139 := (o135 _ (Ne.symm ne94)).trans f132
  have fr140 := FRM_A fr133 o135
  exact mp_rv x hr hlk (by decide) (by decide) hH hS (fun _ => ⟨rfl, q60, b70, q86, z65, z75, z91, (Ne.symm ne77), ne92, ne93, f134, f137, f138, f139, fr140⟩) dd_dk_init_56
