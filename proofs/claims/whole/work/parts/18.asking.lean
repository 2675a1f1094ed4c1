-- ak_forgetAnswers
set_option maxRecDepth 100000 in
set_option maxHeartbeats 4000000 in
theorem kk_ak_forgetAnswers {l : Launch} {D : va_G} {ar : Nat → ClassId} {base : Nat} {σ : mp_M} {a : Nat} {x0 x1 x2 x3 x4 x5 x6 x7 : Int32} (h0 : σ a = some (.inr (0, [.int x0, .int x1, .int x2, .int x3, .int x4, .int x5, .int x6, .int x7])))  : CN l D ar base yy_ak_forgetAnswers prog_2_method_7_code 1 (Option.none : Option Jvm.ClassFile.FieldType) [] 0 0 0 0 [.ref a] σ (fun o σ' _ => o = .returned none ∧ σ' a = some (.inr (0, [.int x0, .int x1, .int x2, .int x3, .int (nI 0), .int x5, .int (nI 0), .int (-1)])) ∧ ∀ q, q ≠ a → σ' q = σ q) := by
  refine mp_in (Nat.le_of_ble_eq_true rfl) ?_
  intro p e R s m below meth c x hfr hlo hce hsl hr hlk hin hex hG hB ls H hH0 hH hS hl
  have hl : lv_has ls 1 [(0, .ref a)] := hl
  refine lv_aload_n x.1 x.2.1 dd_ak_forgetAnswers_0 rfl (lv_at hl 0 rfl) ?_
  refine lv_iconst (v := nI 0) x.1 x.2.1 dd_ak_forgetAnswers_1 (by decide +kernel) ?_
  refine mn_put x hH hS h0 fp_ak_39 rfl rfl (Nat.le_of_ble_eq_true rfl) (fs' := [.int x0, .int x1, .int x2, .int x3, .int (nI 0), .int x5, .int x6, .int x7]) rfl dd_ak_forgetAnswers_2 (fun σ3 f1 o2 H locs hH hS => ?_)
  refine lv_aload_n x.1 x.2.1 dd_ak_forgetAnswers_5 rfl (lv_at hl 0 rfl) ?_
  refine lv_iconst (v := nI 0) x.1 x.2.1 dd_ak_forgetAnswers_6 (by decide +kernel) ?_
  refine mn_put x hH hS f1 fp_ak_33 rfl rfl (Nat.le_of_ble_eq_true rfl) (fs' := [.int x0, .int x1, .int x2, .int x3, .int (nI 0), .int x5, .int (nI 0), .int x7]) rfl dd_ak_forgetAnswers_7 (fun σ6 f4 o5 H locs hH hS => ?_)
  refine lv_aload_n x.1 x.2.1 dd_ak_forgetAnswers_10 rfl (lv_at hl 0 rfl) ?_
  refine lv_iconst (v := (-1)) x.1 x.2.1 dd_ak_forgetAnswers_11 (by decide +kernel) ?_
  refine mn_put x hH hS f4 fp_ak_36 rfl rfl (Nat.le_of_ble_eq_true rfl) (fs' := [.int x0, .int x1, .int x2, .int x3, .int (nI 0), .int x5, .int (nI 0), .int (-1)]) rfl dd_ak_forgetAnswers_12 (fun σ9 f7 o8 H locs hH hS => ?_)
  exact mp_rv x hr hlk (by decide) (by decide) hH hS (fun _ => ⟨rfl, f7, fun q z0 => ((o8 q z0).trans ((o5 q z0).trans (o2 q z0)))⟩) dd_ak_forgetAnswers_15
-- ak_end
set_option maxRecDepth 100000 in
set_option maxHeartbeats 4000000 in
theorem kk_ak_end {l : Launch} {D : va_G} {ar : Nat → ClassId} {base : Nat} {σ : mp_M} {a : Nat} {x0 x1 x2 x3 x4 x5 x6 x7 : Int32} (h0 : σ a = some (.inr (0, [.int x0, .int x1, .int x2, .int x3, .int x4, .int x5, .int x6, .int x7])))  : CN l D ar base yy_ak_end prog_2_method_3_code 1 (Option.none : Option Jvm.ClassFile.FieldType) [] 1 12 0 0 [.ref a] σ (fun o σ' _ => o = .returned none ∧ σ' a = some (.inr (0, [.int (nI 0), .int (-1), .int (nI 0), .int (nI 0), .int (nI 0), .int (nI 0), .int (nI 0), .int (-1)])) ∧ ∀ q, q ≠ a → σ' q = σ q) := by
  refine mp_in (Nat.le_of_ble_eq_true rfl) ?_
  intro p e R s m below meth c x hfr hlo hce hsl hr hlk hin hex hG hB ls H hH0 hH hS hl
  have hl : lv_has ls 1 [(0, .ref a)] := hl
  refine lv_aload_n x.1 x.2.1 dd_ak_end_0 rfl (lv_at hl 0 rfl) ?_
  refine lv_iconst (v := nI 0) x.1 x.2.1 dd_ak_end_1 (by decide +kernel) ?_
  refine mn_put x hH hS h0 fp_ak_18 rfl rfl (Nat.le_of_ble_eq_true rfl) (fs' := [.int (nI 0), .int x1, .int x2, .int x3, .int x4, .int x5, .int x6, .int x7]) rfl dd_ak_end_2 (fun σ12 f10 o11 H locs hH hS => ?_)
  refine lv_aload_n x.1 x.2.1 dd_ak_end_5 rfl (lv_at hl 0 rfl) ?_
  refine lv_iconst (v := (-1)) x.1 x.2.1 dd_ak_end_6 (by decide +kernel) ?_
  refine mn_put x hH hS f10 fp_ak_21 rfl rfl (Nat.le_of_ble_eq_true rfl) (fs' := [.int (nI 0), .int (-1), .int x2, .int x3, .int x4, .int x5, .int x6, .int x7]) rfl dd_ak_end_7 (fun σ15 f13 o14 H locs hH hS => ?_)
  refine lv_aload_n x.1 x.2.1 dd_ak_end_10 rfl (lv_at hl 0 rfl) ?_
  refine lv_iconst (v := nI 0) x.1 x.2.1 dd_ak_end_11 (by decide +kernel) ?_
  refine mn_put x hH hS f13 fp_ak_24 rfl rfl (Nat.le_of_ble_eq_true rfl) (fs' := [.int (nI 0), .int (-1), .int (nI 0), .int x3, .int x4, .int x5, .int x6, .int x7]) rfl dd_ak_end_12 (fun σ18 f16 o17 H locs hH hS => ?_)
  refine lv_aload_n x.1 x.2.1 dd_ak_end_15 rfl (lv_at hl 0 rfl) ?_
  refine lv_iconst (v := nI 0) x.1 x.2.1 dd_ak_end_16 (by decide +kernel) ?_
  refine mn_put x hH hS f16 fp_ak_14 rfl rfl (Nat.le_of_ble_eq_true rfl) (fs' := [.int (nI 0), .int (-1), .int (nI 0), .int (nI 0), .int x4, .int x5, .int x6, .int x7]) rfl dd_ak_end_17 (fun σ21 f19 o20 H locs hH hS => ?_)
  refine lv_aload_n x.1 x.2.1 dd_ak_end_20 rfl (lv_at hl 0 rfl) ?_
  refine lv_iconst (v := nI 0) x.1 x.2.1 dd_ak_end_21 (by decide +kernel) ?_
  refine mn_put x hH hS f19 fp_ak_27 rfl rfl (Nat.le_of_ble_eq_true rfl) (fs' := [.int (nI 0), .int (-1), .int (nI 0), .int (nI 0), .int x4, .int (nI 0), .int x6, .int x7]) rfl dd_ak_end_22 (fun σ24 f22 o23 H locs hH hS => ?_)
  refine lv_aload_n x.1 x.2.1 dd_ak_end_25 rfl (lv_at hl 0 rfl) ?_
  refine mp_call x (wt_mv base) hG hB hl.1 (mp_invV (av := []) x hH f22 rfl rfl mn_ak_forgetAnswers mc_ak_forgetAnswers (Or.inl ww_113) ww_115 ww_1 rfl dd_ak_end_26) (kk_ak_forgetAnswers f22) (Nat.le_trans (Nat.le_of_ble_eq_true rfl) hfr) (Nat.le_trans (Nat.le_of_ble_eq_true rfl) hlo) (Nat.le_trans (Nat.le_of_ble_eq_true rfl) hce) (Nat.le_trans (Nat.le_of_ble_eq_true rfl) hsl) hH hS (fun v σa t H locs hp25 ht hvm hz hH hS => ?_) (fun _ _ _ _ _ hz _ _ _ _ _ => by cases hz.1)
  obtain ⟨ho, f26, o27⟩ := hp25
  cases ho
  refine W.eq (g2 := F0 m 29 ls []) rfl ?_
  exact mp_rv x hr hlk (by decide) (by decide) hH hS (fun _ => ⟨rfl, f26, fun q z0 => ((o27 q z0).trans ((o23 q z0).trans ((o20 q z0).trans ((o17 q z0).trans ((o14 q z0).trans (o11 q z0))))))⟩) dd_ak_end_29
-- ak_begin
set_option maxRecDepth 100000 in
set_option maxHeartbeats 4000000 in
theorem kk_ak_begin {l : Launch} {D : va_G} {ar : Nat → ClassId} {base : Nat} {σ : mp_M} {a : Nat} {x0 x1 x2 x3 x4 x5 x6 x7 : Int32} {k j : Int32} (h0 : σ a = some (.inr (0, [.int x0, .int x1, .int x2, .int x3, .int x4, .int x5, .int x6, .int x7])))  : CN l D ar base yy_ak_begin prog_2_method_4_code 3 (Option.none : Option Jvm.ClassFile.FieldType) [] 2 24 0 0 [.ref a, .int k, .int j] σ (fun o σ' _ => o = .returned none ∧ σ' a = some (.inr (0, [.int k, .int j, .int (nI 0), .int (nI 0), .int (nI 0), .int (nI 0), .int (nI 0), .int (-1)])) ∧ ∀ q, q ≠ a → σ' q = σ q) := by
  refine mp_in (Nat.le_of_ble_eq_true rfl) ?_
  intro p e R s m below meth c x hfr hlo hce hsl hr hlk hin hex hG hB ls H hH0 hH hS hl
  have hl : lv_has ls 3 [(0, .ref a), (1, .int k), (2, .int j)] := hl
  refine lv_aload_n x.1 x.2.1 dd_ak_begin_0 rfl (lv_at hl 0 rfl) ?_
  refine mp_call x (wt_mv base) hG hB hl.1 (mp_invV (av := []) x hH h0 rfl rfl mn_ak_end mc_ak_end (Or.inl ww_109) ww_111 ww_0 rfl dd_ak_begin_1) (kk_ak_end h0) (Nat.le_trans (Nat.le_of_ble_eq_true rfl) hfr) (Nat.le_trans (Nat.le_of_ble_eq_true rfl) hlo) (Nat.le_trans (Nat.le_of_ble_eq_true rfl) hce) (Nat.le_trans (Nat.le_of_ble_eq_true rfl) hsl) hH hS (fun v σa t H locs hp28 ht hvm hz hH hS => ?_) (fun _ _ _ _ _ hz _ _ _ _ _ => by cases hz.1)
  obtain ⟨ho, f29, o30⟩ := hp28
  cases ho
  refine W.eq (g2 := F0 m 4 ls []) rfl ?_
  refine lv_aload_n x.1 x.2.1 dd_ak_begin_4 rfl (lv_at hl 0 rfl) ?_
  refine lv_iload_n x.1 x.2.1 dd_ak_begin_5 rfl (lv_at hl 1 rfl) ?_
  refine mn_put x hH hS f29 fp_ak_18 rfl rfl (Nat.le_of_ble_eq_true rfl) (fs' := [.int k, .int (-1), .int (nI 0), .int (nI 0), .int (nI 0), .int (nI 0), .int (nI 0), .int (-1)]) rfl dd_ak_begin_6 (fun σ33 f31 o32 H locs hH hS => ?_)
  refine lv_aload_n x.1 x.2.1 dd_ak_begin_9 rfl (lv_at hl 0 rfl) ?_
  refine lv_iload_n x.1 x.2.1 dd_ak_begin_10 rfl (lv_at hl 2 rfl) ?_
  refine mn_put x hH hS f31 fp_ak_21 rfl rfl (Nat.le_of_ble_eq_true rfl) (fs' := [.int k, .int j, .int (nI 0), .int (nI 0), .int (nI 0), .int (nI 0), .int (nI 0), .int (-1)]) rfl dd_ak_begin_11 (fun σ36 f34 o35 H locs hH hS => ?_)
  exact mp_rv x hr hlk (by decide) (by decide) hH hS (fun _ => ⟨rfl, f34, fun q z0 => ((o35 q z0).trans ((o32 q z0).trans (o30 q z0)))⟩) dd_ak_begin_14
-- ak_beginRound
set_option maxRecDepth 100000 in
set_option maxHeartbeats 4000000 in
theorem kk_ak_beginRound {l : Launch} {D : va_G} {ar : Nat → ClassId} {base : Nat} {σ : mp_M} {a : Nat} {x0 x1 x2 x3 x4 x5 x6 x7 : Int32} {k : Int32} (h0 : σ a = some (.inr (0, [.int x0, .int x1, .int x2, .int x3, .int x4, .int x5, .int x6, .int x7])))  : CN l D ar base yy_ak_beginRound prog_2_method_5_code 2 (Option.none : Option Jvm.ClassFile.FieldType) [] 1 12 0 0 [.ref a, .int k] σ (fun o σ' _ => o = .returned none ∧ σ' a = some (.inr (0, [.int x0, .int x1, .int k, .int (nI 1), .int (nI 0), .int x5, .int (nI 0), .int (-1)])) ∧ ∀ q, q ≠ a → σ' q = σ q) := by
  refine mp_in (Nat.le_of_ble_eq_true rfl) ?_
  intro p e R s m below meth c x hfr hlo hce hsl hr hlk hin hex hG hB ls H hH0 hH hS hl
  have hl : lv_has ls 2 [(0, .ref a), (1, .int k)] := hl
  refine lv_aload_n x.1 x.2.1 dd_ak_beginRound_0 rfl (lv_at hl 0 rfl) ?_
  refine lv_iload_n x.1 x.2.1 dd_ak_beginRound_1 rfl (lv_at hl 1 rfl) ?_
  refine mn_put x hH hS h0 fp_ak_24 rfl rfl (Nat.le_of_ble_eq_true rfl) (fs' := [.int x0, .int x1, .int k, .int x3, .int x4, .int x5, .int x6, .int x7]) rfl dd_ak_beginRound_2 (fun σ39 f37 o38 H locs hH hS => ?_)
  refine lv_aload_n x.1 x.2.1 dd_ak_beginRound_5 rfl (lv_at hl 0 rfl) ?_
  refine lv_iconst (v := nI 1) x.1 x.2.1 dd_ak_beginRound_6 (by decide +kernel) ?_
  refine mn_put x hH hS f37 fp_ak_14 rfl rfl (Nat.le_of_ble_eq_true rfl) (fs' := [.int x0, .int x1, .int k, .int (nI 1), .int x4, .int x5, .int x6, .int x7]) rfl dd_ak_beginRound_7 (fun σ42 f40 o41 H locs hH hS => ?_)
  refine lv_aload_n x.1 x.2.1 dd_ak_beginRound_10 rfl (lv_at hl 0 rfl) ?_
  refine mp_call x (wt_mv base) hG hB hl.1 (mp_invV (av := []) x hH f40 rfl rfl mn_ak_forgetAnswers mc_ak_forgetAnswers (Or.inl ww_113) ww_115 ww_1 rfl dd_ak_beginRound_11) (kk_ak_forgetAnswers f40) (Nat.le_trans (Nat.le_of_ble_eq_true rfl) hfr) (Nat.le_trans (Nat.le_of_ble_eq_true rfl) hlo) (Nat.le_trans (Nat.le_of_ble_eq_true rfl) hce) (Nat.le_trans (Nat.le_of_ble_eq_true rfl) hsl) hH hS (fun v σa t H locs hp43 ht hvm hz hH hS => ?_) (fun _ _ _ _ _ hz _ _ _ _ _ => by cases hz.1)
  obtain ⟨ho, f44, o45⟩ := hp43
  cases ho
  refine W.eq (g2 := F0 m 14 ls []) rfl ?_
  exact mp_rv x hr hlk (by decide) (by decide) hH hS (fun _ => ⟨rfl, f44, fun q z0 => ((o45 q z0).trans ((o41 q z0).trans (o38 q z0)))⟩) dd_ak_beginRound_14
-- ak_init
set_option maxRecDepth 100000 in
set_option maxHeartbeats 4000000 in
theorem kk_ak_init {l : Launch} {D : va_G} {ar : Nat → ClassId} {base : Nat} {σ : mp_M} {a : Nat} {x0 x1 x2 x3 x4 x5 x6 x7 : Int32} (h0 : σ a = some (.inr (0, [.int x0, .int x1, .int x2, .int x3, .int x4, .int x5, .int x6, .int x7])))  : CN l D ar base yy_ak_init prog_2_method_1_code 1 (Option.none : Option Jvm.ClassFile.FieldType) [] 2 24 0 0 [.ref a] σ (fun o σ' _ => o = .returned none ∧ σ' a = some (.inr (0, [.int (nI 0), .int (-1), .int (nI 0), .int (nI 0), .int (nI 0), .int (nI 0), .int (nI 0), .int (-1)])) ∧ ∀ q, q ≠ a → σ' q = σ q) := by
  refine mp_in (Nat.le_of_ble_eq_true rfl) ?_
  intro p e R s m below meth c x hfr hlo hce hsl hr hlk hin hex hG hB ls H hH0 hH hS hl
  have hl : lv_has ls 1 [(0, .ref a)] := hl
  refine lv_aload_n x.1 x.2.1 dd_ak_init_0 rfl (lv_at hl 0 rfl) ?_
  refine W.objInit x.1 x.2.1 x.2.2.2.1 (x.2.2.2.2.1 _ ww_108) (x.2.2.2.2.1 _ ww_75) (x.2.2.2.2.1 _ ww_76) rfl (hl.1.trans x.2.2.1.symm) rfl dd_ak_init_1 (Nat.le_trans (Nat.le_of_ble_eq_true rfl) hfr) (Nat.le_trans (Nat.le_of_ble_eq_true rfl) hlo) ?_
  refine W.eq (g2 := F0 m 4 ls []) rfl ?_
  refine lv_aload_n x.1 x.2.1 dd_ak_init_4 rfl (lv_at hl 0 rfl) ?_
  refine mp_call x (wt_mv base) hG hB hl.1 (mp_invV (av := []) x hH h0 rfl rfl mn_ak_end mc_ak_end (Or.inl ww_109) ww_111 ww_0 rfl dd_ak_init_5) (kk_ak_end h0) (Nat.le_trans (Nat.le_of_ble_eq_true rfl) hfr) (Nat.le_trans (Nat.le_of_ble_eq_true rfl) hlo) (Nat.le_trans (Nat.le_of_ble_eq_true rfl) hce) (Nat.le_trans (Nat.le_of_ble_eq_true rfl) hsl) hH hS (fun v σa t H locs hp46 ht hvm hz hH hS => ?_) (fun _ _ _ _ _ hz _ _ _ _ _ => by cases hz.1)
  obtain ⟨ho, f47, o48⟩ := hp46
  cases ho
  refine W.eq (g2 := F0 m 8 ls []) rfl ?_
  exact mp_rv x hr hlk (by decide) (by decide) hH hS (fun _ => ⟨rfl, f47, fun q z0 => (o48 q z0)⟩) dd_ak_init_8
-- ak_runs
set_option maxRecDepth 100000 in
set_option maxHeartbeats 4000000 in
theorem kk_ak_runs {l : Launch} {D : va_G} {ar : Nat → ClassId} {base : Nat} {σ : mp_M} {a : Nat} {x0 x1 x2 x3 x4 x5 x6 x7 : Int32} (h0 : σ a = some (.inr (0, [.int x0, .int x1, .int x2, .int x3, .int x4, .int x5, .int x6, .int x7])))  : CN l D ar base yy_ak_runs prog_2_method_2_code 1 (Option.some Jvm.ClassFile.FieldType.boolean) [] 0 0 0 0 [.ref a] σ (fun o σ' _ => o = .returned (some (.int (if x3 = 0 then nI 0 else nI 1))) ∧ σ' = σ) := by
  refine mp_in (Nat.le_of_ble_eq_true rfl) ?_
  intro p e R s m below meth c x hfr hlo hce hsl hr hlk hin hex hG hB ls H hH0 hH hS hl
  have hl : lv_has ls 1 [(0, .ref a)] := hl
  refine lv_aload_n x.1 x.2.1 dd_ak_runs_0 rfl (lv_at hl 0 rfl) ?_
  refine mp_get x hH h0 fg_ak_14 rfl dd_ak_runs_1 ?_
  refine lv_if_eq (tgt := 11) x.1 x.2.1 dd_ak_runs_4 (by decide) (fun c49 => ?_) (fun c49 => ?_)
  · refine lv_iconst (v := nI 0) x.1 x.2.1 dd_ak_runs_11 (by decide +kernel) ?_
    exact mp_rz x hr (by decide) hlk (by decide) (by decide) hH hS (fun _ => ⟨(congrArg (fun z => Outcome.returned (some (.int z))) ((if_pos c49).symm)), rfl⟩) dd_ak_runs_12
  · refine lv_iconst (v := nI 1) x.1 x.2.1 dd_ak_runs_7 (by decide +kernel) ?_
    refine lv_goto (tgt := 12) x.1 x.2.1 dd_ak_runs_8 (by decide) ?_
    exact mp_rz x hr (by decide) hlk (by decide) (by decide) hH hS (fun _ => ⟨(congrArg (fun z => Outcome.returned (some (.int z))) ((if_neg c49).symm)), rfl⟩) dd_ak_runs_12
-- ak_beginPhaseTwo
set_option maxRecDepth 100000 in
set_option maxHeartbeats 4000000 in
theorem kk_ak_beginPhaseTwo {l : Launch} {D : va_G} {ar : Nat → ClassId} {base : Nat} {σ : mp_M} {a : Nat} {x0 x1 x2 x3 x4 x5 x6 x7 : Int32} (h0 : σ a = some (.inr (0, [.int x0, .int x1, .int x2, .int x3, .int x4, .int x5, .int x6, .int x7])))  : CN l D ar base yy_ak_beginPhaseTwo prog_2_method_6_code 1 (Option.none : Option Jvm.ClassFile.FieldType) [] 1 12 0 0 [.ref a] σ (fun o σ' _ => o = .returned none ∧ σ' a = some (.inr (0, [.int x0, .int (if 0 < x6 then x7 else x1), .int x2, .int (nI 2), .int (nI 0), .int x5, .int (nI 0), .int (-1)])) ∧ ∀ q, q ≠ a → σ' q = σ q) := by
  refine mp_in (Nat.le_of_ble_eq_true rfl) ?_
  intro p e R s m below meth c x hfr hlo hce hsl hr hlk hin hex hG hB ls H hH0 hH hS hl
  have hl : lv_has ls 1 [(0, .ref a)] := hl
  refine lv_aload_n x.1 x.2.1 dd_ak_beginPhaseTwo_0 rfl (lv_at hl 0 rfl) ?_
  refine mp_get x hH h0 fg_ak_33 rfl dd_ak_beginPhaseTwo_1 ?_
  refine lv_if_le (tgt := 15) x.1 x.2.1 dd_ak_beginPhaseTwo_4 (by decide) (fun c50 => ?_) (fun c50 => ?_)
  · refine lv_aload_n x.1 x.2.1 dd_ak_beginPhaseTwo_15 rfl (lv_at hl 0 rfl) ?_
    refine lv_iconst (v := nI 2) x.1 x.2.1 dd_ak_beginPhaseTwo_16 (by decide +kernel) ?_
    refine mn_put x hH hS h0 fp_ak_14 rfl rfl (Nat.le_of_ble_eq_true rfl) (fs' := [.int x0, .int x1, .int x2, .int (nI 2), .int x4, .int x5, .int x6, .int x7]) rfl dd_ak_beginPhaseTwo_17 (fun σ53 f51 o52 H locs hH hS => ?_)
    refine lv_aload_n x.1 x.2.1 dd_ak_beginPhaseTwo_20 rfl (lv_at hl 0 rfl) ?_
    refine mp_call x (wt_mv base) hG hB hl.1 (mp_invV (av := []) x hH f51 rfl rfl mn_ak_forgetAnswers mc_ak_forgetAnswers (Or.inl ww_113) ww_115 ww_1 rfl dd_ak_beginPhaseTwo_21) (kk_ak_forgetAnswers f51) (Nat.le_trans (Nat.le_of_ble_eq_true rfl) hfr) (Nat.le_trans (Nat.le_of_ble_eq_true rfl) hlo) (Nat.le_trans (Nat.le_of_ble_eq_true rfl) hce) (Nat.le_trans (Nat.le_of_ble_eq_true rfl) hsl) hH hS (fun v σa t H locs hp54 ht hvm hz hH hS => ?_) (fun _ _ _ _ _ hz _ _ _ _ _ => by cases hz.1)
    obtain ⟨ho, f55, o56⟩ := hp54
    cases ho
    refine W.eq (g2 := F0 m 24 ls []) rfl ?_
    exact mp_rv x hr hlk (by decide) (by decide) hH hS (fun _ => ⟨rfl, (f55.trans (congrArg some (by rw [if_neg (Int32.not_lt.mpr c50)]))), fun q z0 => ((o56 q z0).trans (o52 q z0))⟩) dd_ak_beginPhaseTwo_24
  · refine lv_aload_n x.1 x.2.1 dd_ak_beginPhaseTwo_7 rfl (lv_at hl 0 rfl) ?_
    refine lv_aload_n x.1 x.2.1 dd_ak_beginPhaseTwo_8 rfl (lv_at hl 0 rfl) ?_
    refine mp_get x hH h0 fg_ak_36 rfl dd_ak_beginPhaseTwo_9 ?_
    refine mn_put x hH hS h0 fp_ak_21 rfl rfl (Nat.le_of_ble_eq_true rfl) (fs' := [.int x0, .int x7, .int x2, .int x3, .int x4, .int x5, .int x6, .int x7]) rfl dd_ak_beginPhaseTwo_12 (fun σ59 f57 o58 H locs hH hS => ?_)
    refine lv_aload_n x.1 x.2.1 dd_ak_beginPhaseTwo_15 rfl (lv_at hl 0 rfl) ?_
    refine lv_iconst (v := nI 2) x.1 x.2.1 dd_ak_beginPhaseTwo_16 (by decide +kernel) ?_
    refine mn_put x hH hS f57 fp_ak_14 rfl rfl (Nat.le_of_ble_eq_true rfl) (fs' := [.int x0, .int x7, .int x2, .int (nI 2), .int x4, .int x5, .int x6, .int x7]) rfl dd_ak_beginPhaseTwo_17 (fun σ62 f60 o61 H locs hH hS => ?_)
    refine lv_aload_n x.1 x.2.1 dd_ak_beginPhaseTwo_20 rfl (lv_at hl 0 rfl) ?_
    refine mp_call x (wt_mv base) hG hB hl.1 (mp_invV (av := []) x hH f60 rfl rfl mn_ak_forgetAnswers mc_ak_forgetAnswers (Or.inl ww_113) ww_115 ww_1 rfl dd_ak_beginPhaseTwo_21) (kk_ak_forgetAnswers f60) (Nat.le_trans (Nat.le_of_ble_eq_true rfl) hfr) (Nat.le_trans (Nat.le_of_ble_eq_true rfl) hlo) (Nat.le_trans (Nat.le_of_ble_eq_true rfl) hce) (Nat.le_trans (Nat.le_of_ble_eq_true rfl) hsl) hH hS (fun v σa t H locs hp63 ht hvm hz hH hS => ?_) (fun _ _ _ _ _ hz _ _ _ _ _ => by cases hz.1)
    obtain ⟨ho, f64, o65⟩ := hp63
    cases ho
    refine W.eq (g2 := F0 m 24 ls []) rfl ?_
    exact mp_rv x hr hlk (by decide) (by decide) hH hS (fun _ => ⟨rfl, (f64.trans (congrArg some (by rw [if_pos (Int32.not_le.mp c50)]))), fun q z0 => ((o65 q z0).trans ((o61 q z0).trans (o58 q z0)))⟩) dd_ak_beginPhaseTwo_24
-- ak_waitsFor
set_option maxRecDepth 100000 in
set_option maxHeartbeats 4000000 in
theorem kk_ak_waitsFor {l : Launch} {D : va_G} {ar : Nat → ClassId} {base : Nat} {σ : mp_M} {a : Nat} {x0 x1 x2 x3 x4 x5 x6 x7 : Int32} {b kn : Nat} {y1 y2 y3 y4 y5 y6 y7 y8 : Int32} {k : Int32} (h0 : σ a = some (.inr (0, [.int x0, .int x1, .int x2, .int x3, .int x4, .int x5, .int x6, .int x7]))) (h1 : σ b = some (.inr (2, [.ref kn, .int y1, .int y2, .int y3, .int y4, .int y5, .int y6, .int y7, .int y8])))  : CN l D ar base yy_ak_waitsFor prog_2_method_8_code 3 (Option.some Jvm.ClassFile.FieldType.boolean) [] 0 0 0 0 [.ref a, .ref b, .int k] σ (fun o σ' _ => o = .returned (some (.int (if x3 = k ∧ y5 = x0 ∧ y6 = x2 then nI 1 else nI 0))) ∧ σ' = σ) := by
  refine mp_in (Nat.le_of_ble_eq_true rfl) ?_
  intro p e R s m below meth c x hfr hlo hce hsl hr hlk hin hex hG hB ls H hH0 hH hS hl
  have hl : lv_has ls 3 [(0, .ref a), (1, .ref b), (2, .int k)] := hl
  refine lv_aload_n x.1 x.2.1 dd_ak_waitsFor_0 rfl (lv_at hl 0 rfl) ?_
  refine mp_get x hH h0 fg_ak_14 rfl dd_ak_waitsFor_1 ?_
  refine lv_iload_n x.1 x.2.1 dd_ak_waitsFor_4 rfl (lv_at hl 2 rfl) ?_
  refine lv_icmp_ne (tgt := 34) x.1 x.2.1 dd_ak_waitsFor_5 (by decide) (fun c66 => ?_) (fun c66 => ?_)
  · refine lv_iconst (v := nI 0) x.1 x.2.1 dd_ak_waitsFor_34 (by decide +kernel) ?_
    exact mp_rz x hr (by decide) hlk (by decide) (by decide) hH hS (fun _ => ⟨(congrArg (fun z => Outcome.returned (some (.int z))) (by simp [c66])), rfl⟩) dd_ak_waitsFor_35
  · refine lv_aload_n x.1 x.2.1 dd_ak_waitsFor_8 rfl (lv_at hl 1 rfl) ?_
    refine mp_get x hH h1 fg_ak_42 rfl dd_ak_waitsFor_9 ?_
    refine lv_aload_n x.1 x.2.1 dd_ak_waitsFor_12 rfl (lv_at hl 0 rfl) ?_
    refine mp_get x hH h0 fg_ak_18 rfl dd_ak_waitsFor_13 ?_
    refine lv_icmp_ne (tgt := 34) x.1 x.2.1 dd_ak_waitsFor_16 (by decide) (fun c67 => ?_) (fun c67 => ?_)
    · refine lv_iconst (v := nI 0) x.1 x.2.1 dd_ak_waitsFor_34 (by decide +kernel) ?_
      exact mp_rz x hr (by decide) hlk (by decide) (by decide) hH hS (fun _ => ⟨(congrArg (fun z => Outcome.returned (some (.int z))) (by simp [c66, c67])), rfl⟩) dd_ak_waitsFor_35
    · refine lv_aload_n x.1 x.2.1 dd_ak_waitsFor_19 rfl (lv_at hl 1 rfl) ?_
      refine mp_get x hH h1 fg_ak_45 rfl dd_ak_waitsFor_20 ?_
      refine lv_aload_n x.1 x.2.1 dd_ak_waitsFor_23 rfl (lv_at hl 0 rfl) ?_
      refine mp_get x hH h0 fg_ak_24 rfl dd_ak_waitsFor_24 ?_
      refine lv_icmp_ne (tgt := 34) x.1 x.2.1 dd_ak_waitsFor_27 (by decide) (fun c68 => ?_) (fun c68 => ?_)
      · refine lv_iconst (v := nI 0) x.1 x.2.1 dd_ak_waitsFor_34 (by decide +kernel) ?_
        exact mp_rz x hr (by decide) hlk (by decide) (by decide) hH hS (fun _ => ⟨(congrArg (fun z => Outcome.returned (some (.int z))) (by simp [c66, c67, c68])), rfl⟩) dd_ak_waitsFor_35
      · refine lv_iconst (v := nI 1) x.1 x.2.1 dd_ak_waitsFor_30 (by decide +kernel) ?_
        refine lv_goto (tgt := 35) x.1 x.2.1 dd_ak_waitsFor_31 (by decide) ?_
        exact mp_rz x hr (by decide) hlk (by decide) (by decide) hH hS (fun _ => ⟨(congrArg (fun z => Outcome.returned (some (.int z))) (by simp [c66, c67, c68])), rfl⟩) dd_ak_waitsFor_35
-- ak_countAnswer
set_option maxRecDepth 100000 in
set_option maxHeartbeats 4000000 in
theorem kk_ak_countAnswer {l : Launch} {D : va_G} {ar : Nat → ClassId} {base : Nat} {σ : mp_M} {a : Nat} {x0 x1 x2 x3 x4 x5 x6 x7 : Int32} {b kn : Nat} {y1 y2 y3 y4 y5 y6 y7 y8 : Int32} (h0 : σ a = some (.inr (0, [.int x0, .int x1, .int x2, .int x3, .int x4, .int x5, .int x6, .int x7]))) (h1 : σ b = some (.inr (2, [.ref kn, .int y1, .int y2, .int y3, .int y4, .int y5, .int y6, .int y7, .int y8])))  : CN l D ar base yy_ak_countAnswer prog_2_method_9_code 2 (Option.none : Option Jvm.ClassFile.FieldType) [] 0 0 0 0 [.ref a, .ref b] σ (fun o σ' _ => o = .returned none ∧ σ' a = some (.inr (0, [.int x0, .int x1, .int x2, .int x3, .int (x4 ||| nI 1 <<< (y2 &&& 31)), .int x5, .int (if x6 < y7 then y7 else x6), .int (if x6 < y7 then y8 else x7)])) ∧ ∀ q, q ≠ a → σ' q = σ q) := by
  refine mp_in (Nat.le_of_ble_eq_true rfl) ?_
  intro p e R s m below meth c x hfr hlo hce hsl hr hlk hin hex hG hB ls H hH0 hH hS hl
  have hl : lv_has ls 2 [(0, .ref a), (1, .ref b)] := hl
  refine lv_aload_n x.1 x.2.1 dd_ak_countAnswer_0 rfl (lv_at hl 0 rfl) ?_
  refine lv_dup x.1 x.2.1 dd_ak_countAnswer_1 rfl ?_
  refine mp_get x hH h0 fg_ak_39 rfl dd_ak_countAnswer_2 ?_
  refine lv_iconst (v := nI 1) x.1 x.2.1 dd_ak_countAnswer_5 (by decide +kernel) ?_
  refine lv_aload_n x.1 x.2.1 dd_ak_countAnswer_6 rfl (lv_at hl 1 rfl) ?_
  refine mp_get x hH h1 fg_ak_46 rfl dd_ak_countAnswer_7 ?_
  refine lv_ishl x.1 x.2.1 dd_ak_countAnswer_10 ?_
  refine lv_ior x.1 x.2.1 dd_ak_countAnswer_11 ?_
  refine mn_put x hH hS h0 fp_ak_39 rfl rfl (Nat.le_of_ble_eq_true rfl) (fs' := [.int x0, .int x1, .int x2, .int x3, .int (x4 ||| ((nI 1) <<< (y2 &&& 31))), .int x5, .int x6, .int x7]) rfl dd_ak_countAnswer_12 (fun σ71 f69 o70 H locs hH hS => ?_)
  have f72 := (o70 _ (mp_neC h1 h0 (by decide))).trans h1
  refine lv_aload_n x.1 x.2.1 dd_ak_countAnswer_15 rfl (lv_at hl 1 rfl) ?_
  refine mp_get x hH f72 fg_ak_49 rfl dd_ak_countAnswer_16 ?_
  refine lv_aload_n x.1 x.2.1 dd_ak_countAnswer_19 rfl (lv_at hl 0 rfl) ?_
  refine mp_get x hH f69 fg_ak_33 rfl dd_ak_countAnswer_20 ?_
  refine lv_icmp_le (tgt := 42) x.1 x.2.1 dd_ak_countAnswer_23 (by decide) (fun c73 => ?_) (fun c73 => ?_)
  · exact mp_rv x hr hlk (by decide) (by decide) hH hS (fun _ => ⟨rfl, (f69.trans (congrArg some (by rw [if_neg (Int32.not_lt.mpr c73), if_neg (Int32.not_lt.mpr c73)]))), fun q z0 => (o70 q z0)⟩) dd_ak_countAnswer_42
  · refine lv_aload_n x.1 x.2.1 dd_ak_countAnswer_26 rfl (lv_at hl 0 rfl) ?_
    refine lv_aload_n x.1 x.2.1 dd_ak_countAnswer_27 rfl (lv_at hl 1 rfl) ?_
    refine mp_get x hH f72 fg_ak_49 rfl dd_ak_countAnswer_28 ?_
    refine mn_put x hH hS f69 fp_ak_33 rfl rfl (Nat.le_of_ble_eq_true rfl) (fs' := [.int x0, .int x1, .int x2, .int x3, .int (x4 ||| ((nI 1) <<< (y2 &&& 31))), .int x5, .int y7, .int x7]) rfl dd_ak_countAnswer_31 (fun σ76 f74 o75 H locs hH hS => ?_)
    have f77 := (o75 _ (mp_neC f72 f69 (by decide))).trans f72
    refine lv_aload_n x.1 x.2.1 dd_ak_countAnswer_34 rfl (lv_at hl 0 rfl) ?_
    refine lv_aload_n x.1 x.2.1 dd_ak_countAnswer_35 rfl (lv_at hl 1 rfl) ?_
    refine mp_get x hH f77 fg_ak_52 rfl dd_ak_countAnswer_36 ?_
    refine mn_put x hH hS f74 fp_ak_36 rfl rfl (Nat.le_of_ble_eq_true rfl) (fs' := [.int x0, .int x1, .int x2, .int x3, .int (x4 ||| ((nI 1) <<< (y2 &&& 31))), .int x5, .int y7, .int y8]) rfl dd_ak_countAnswer_39 (fun σ80 f78 o79 H locs hH hS => ?_)
    have f81 := (o79 _ (mp_neC f77 f74 (by decide))).trans f77
    exact mp_rv x hr hlk (by decide) (by decide) hH hS (fun _ => ⟨rfl, (f78.trans (congrArg some (by rw [if_pos (Int32.not_le.mp c73), if_pos (Int32.not_le.mp c73)]))), fun q z0 => ((o79 q z0).trans ((o75 q z0).trans (o70 q z0)))⟩) dd_ak_countAnswer_42
