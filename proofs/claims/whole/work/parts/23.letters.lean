/-! ASKINGS, LETTERS, DESKS, THE ROW over the flat state. -/
def sfg (V : fV) (d : Nat) : fV := mu (mu (mu V 40 d (nI 0)) 42 d (nI 0)) 43 d (-1)
set_option maxRecDepth 100000 in
set_option maxHeartbeats 4000000 in
theorem kk_A_forget {l : Launch} {D : va_G} {ar : Nat → ClassId} {base : Nat} {σ : mp_M} {ad : Nat → Nat → Nat} {rg : Nat → Bool} {pl : Nat → Nat} {V M : fV} {d : Nat} (hL : Lay ar ad rg pl V M σ) (hd : dk rg d) : CN l D ar base yy_ak_forgetAnswers prog_2_method_7_code 1 (Option.none : Option Jvm.ClassFile.FieldType) [] 0 0 0 0 [.ref (ad 12 d)] σ (fun o σ' _ => o = .returned none ∧ Lay ar ad rg pl (sfg V d) M σ') := by
  refine mp_in (Nat.le_of_ble_eq_true rfl) ?_
  intro p e R s m below meth c x hfr hlo hce hsl hr hlk hin hex hG hB ls H hH0 hH hS hl
  have hl : lv_has ls 1 [(0, .ref (ad 12 d))] := hl
  refine lv_aload_n x.1 x.2.1 dd_ak_forgetAnswers_0 rfl (lv_at hl 0 rfl) ?_
  refine lv_iconst (v := nI 0) x.1 x.2.1 dd_ak_forgetAnswers_1 (by decide +kernel) ?_
  refine kp_40 x hH hS hL hd fp_ak_39 dd_ak_forgetAnswers_2 (fun σ hL H locs hH hS => ?_)
  refine lv_aload_n x.1 x.2.1 dd_ak_forgetAnswers_5 rfl (lv_at hl 0 rfl) ?_
  refine lv_iconst (v := nI 0) x.1 x.2.1 dd_ak_forgetAnswers_6 (by decide +kernel) ?_
  refine kp_42 x hH hS hL hd fp_ak_33 dd_ak_forgetAnswers_7 (fun σ hL H locs hH hS => ?_)
  refine lv_aload_n x.1 x.2.1 dd_ak_forgetAnswers_10 rfl (lv_at hl 0 rfl) ?_
  refine lv_iconst (v := (-1)) x.1 x.2.1 dd_ak_forgetAnswers_11 (by decide +kernel) ?_
  refine kp_43 x hH hS hL hd fp_ak_36 dd_ak_forgetAnswers_12 (fun σ hL H locs hH hS => ?_)
  exact mp_rv x hr hlk (by decide) (by decide) hH hS (fun _ => ⟨rfl, hL⟩) dd_ak_forgetAnswers_15
def sen (V : fV) (d : Nat) : fV := sfg (mu (mu (mu (mu (mu V 36 d (nI 0)) 37 d (-1)) 38 d (nI 0)) 39 d (nI 0)) 41 d (nI 0)) d
set_option maxRecDepth 100000 in
set_option maxHeartbeats 4000000 in
theorem kk_A_end {l : Launch} {D : va_G} {ar : Nat → ClassId} {base : Nat} {σ : mp_M} {ad : Nat → Nat → Nat} {rg : Nat → Bool} {pl : Nat → Nat} {V M : fV} {d : Nat} (hL : Lay ar ad rg pl V M σ) (hd : dk rg d) : CN l D ar base yy_ak_end prog_2_method_3_code 1 (Option.none : Option Jvm.ClassFile.FieldType) [] 1 12 0 0 [.ref (ad 12 d)] σ (fun o σ' _ => o = .returned none ∧ Lay ar ad rg pl (sen V d) M σ') := by
  refine mp_in (Nat.le_of_ble_eq_true rfl) ?_
  intro p e R s m below meth c x hfr hlo hce hsl hr hlk hin hex hG hB ls H hH0 hH hS hl
  have hl : lv_has ls 1 [(0, .ref (ad 12 d))] := hl
  refine lv_aload_n x.1 x.2.1 dd_ak_end_0 rfl (lv_at hl 0 rfl) ?_
  refine lv_iconst (v := nI 0) x.1 x.2.1 dd_ak_end_1 (by decide +kernel) ?_
  refine kp_36 x hH hS hL hd fp_ak_18 dd_ak_end_2 (fun σ hL H locs hH hS => ?_)
  refine lv_aload_n x.1 x.2.1 dd_ak_end_5 rfl (lv_at hl 0 rfl) ?_
  refine lv_iconst (v := (-1)) x.1 x.2.1 dd_ak_end_6 (by decide +kernel) ?_
  refine kp_37 x hH hS hL hd fp_ak_21 dd_ak_end_7 (fun σ hL H locs hH hS => ?_)
  refine lv_aload_n x.1 x.2.1 dd_ak_end_10 rfl (lv_at hl 0 rfl) ?_
  refine lv_iconst (v := nI 0) x.1 x.2.1 dd_ak_end_11 (by decide +kernel) ?_
  refine kp_38 x hH hS hL hd fp_ak_24 dd_ak_end_12 (fun σ hL H locs hH hS => ?_)
  refine lv_aload_n x.1 x.2.1 dd_ak_end_15 rfl (lv_at hl 0 rfl) ?_
  refine lv_iconst (v := nI 0) x.1 x.2.1 dd_ak_end_16 (by decide +kernel) ?_
  refine kp_39 x hH hS hL hd fp_ak_14 dd_ak_end_17 (fun σ hL H locs hH hS => ?_)
  refine lv_aload_n x.1 x.2.1 dd_ak_end_20 rfl (lv_at hl 0 rfl) ?_
  refine lv_iconst (v := nI 0) x.1 x.2.1 dd_ak_end_21 (by decide +kernel) ?_
  refine kp_41 x hH hS hL hd fp_ak_27 dd_ak_end_22 (fun σ hL H locs hH hS => ?_)
  refine lv_aload_n x.1 x.2.1 dd_ak_end_25 rfl (lv_at hl 0 rfl) ?_
  refine mp_call x (wt_mv base) hG hB hl.1 (mp_invV (av := []) x hH (la12 hL hd) rfl rfl mn_ak_forgetAnswers mc_ak_forgetAnswers (Or.inl ww_113) ww_115 ww_1 rfl dd_ak_end_26) (kk_A_forget hL hd) (Nat.le_trans (Nat.le_of_ble_eq_true rfl) hfr) (Nat.le_trans (Nat.le_of_ble_eq_true rfl) hlo) (Nat.le_trans (Nat.le_of_ble_eq_true rfl) hce) (Nat.le_trans (Nat.le_of_ble_eq_true rfl) hsl) hH hS (fun v σa t0 H locs hp48 ht0 hvm hzz hH hS => ?_) (fun _ _ _ _ _ hz _ _ _ _ _ => by cases hz.1)
  obtain ⟨ho, hL⟩ := hp48
  cases ho
  refine W.eq (g2 := F0 m 29 ls []) rfl ?_
  exact mp_rv x hr hlk (by decide) (by decide) hH hS (fun _ => ⟨rfl, hL⟩) dd_ak_end_29
set_option maxRecDepth 100000 in
set_option maxHeartbeats 4000000 in
theorem kk_A_begin {l : Launch} {D : va_G} {ar : Nat → ClassId} {base : Nat} {σ : mp_M} {ad : Nat → Nat → Nat} {rg : Nat → Bool} {pl : Nat → Nat} {V M : fV} {d : Nat} {k j : Int32} (hL : Lay ar ad rg pl V M σ) (hd : dk rg d) : CN l D ar base yy_ak_begin prog_2_method_4_code 3 (Option.none : Option Jvm.ClassFile.FieldType) [] 2 24 0 0 [.ref (ad 12 d), .int k, .int j] σ (fun o σ' _ => o = .returned none ∧ Lay ar ad rg pl (mu (mu (sen V d) 36 d k) 37 d j) M σ') := by
  refine mp_in (Nat.le_of_ble_eq_true rfl) ?_
  intro p e R s m below meth c x hfr hlo hce hsl hr hlk hin hex hG hB ls H hH0 hH hS hl
  have hl : lv_has ls 3 [(0, .ref (ad 12 d)), (1, .int k), (2, .int j)] := hl
  refine lv_aload_n x.1 x.2.1 dd_ak_begin_0 rfl (lv_at hl 0 rfl) ?_
  refine mp_call x (wt_mv base) hG hB hl.1 (mp_invV (av := []) x hH (la12 hL hd) rfl rfl mn_ak_end mc_ak_end (Or.inl ww_109) ww_111 ww_0 rfl dd_ak_begin_1) (kk_A_end hL hd) (Nat.le_trans (Nat.le_of_ble_eq_true rfl) hfr) (Nat.le_trans (Nat.le_of_ble_eq_true rfl) hlo) (Nat.le_trans (Nat.le_of_ble_eq_true rfl) hce) (Nat.le_trans (Nat.le_of_ble_eq_true rfl) hsl) hH hS (fun v σa t0 H locs hp49 ht0 hvm hzz hH hS => ?_) (fun _ _ _ _ _ hz _ _ _ _ _ => by cases hz.1)
  obtain ⟨ho, hL⟩ := hp49
  cases ho
  refine W.eq (g2 := F0 m 4 ls []) rfl ?_
  refine lv_aload_n x.1 x.2.1 dd_ak_begin_4 rfl (lv_at hl 0 rfl) ?_
  refine lv_iload_n x.1 x.2.1 dd_ak_begin_5 rfl (lv_at hl 1 rfl) ?_
  refine kp_36 x hH hS hL hd fp_ak_18 dd_ak_begin_6 (fun σ hL H locs hH hS => ?_)
  refine lv_aload_n x.1 x.2.1 dd_ak_begin_9 rfl (lv_at hl 0 rfl) ?_
  refine lv_iload_n x.1 x.2.1 dd_ak_begin_10 rfl (lv_at hl 2 rfl) ?_
  refine kp_37 x hH hS hL hd fp_ak_21 dd_ak_begin_11 (fun σ hL H locs hH hS => ?_)
  exact mp_rv x hr hlk (by decide) (by decide) hH hS (fun _ => ⟨rfl, hL⟩) dd_ak_begin_14
set_option maxRecDepth 100000 in
set_option maxHeartbeats 4000000 in
theorem kk_A_beginRound {l : Launch} {D : va_G} {ar : Nat → ClassId} {base : Nat} {σ : mp_M} {ad : Nat → Nat → Nat} {rg : Nat → Bool} {pl : Nat → Nat} {V M : fV} {d : Nat} {k : Int32} (hL : Lay ar ad rg pl V M σ) (hd : dk rg d) : CN l D ar base yy_ak_beginRound prog_2_method_5_code 2 (Option.none : Option Jvm.ClassFile.FieldType) [] 1 12 0 0 [.ref (ad 12 d), .int k] σ (fun o σ' _ => o = .returned none ∧ Lay ar ad rg pl (sfg (mu (mu V 38 d k) 39 d (nI 1)) d) M σ') := by
  refine mp_in (Nat.le_of_ble_eq_true rfl) ?_
  intro p e R s m below meth c x hfr hlo hce hsl hr hlk hin hex hG hB ls H hH0 hH hS hl
  have hl : lv_has ls 2 [(0, .ref (ad 12 d)), (1, .int k)] := hl
  refine lv_aload_n x.1 x.2.1 dd_ak_beginRound_0 rfl (lv_at hl 0 rfl) ?_
  refine lv_iload_n x.1 x.2.1 dd_ak_beginRound_1 rfl (lv_at hl 1 rfl) ?_
  refine kp_38 x hH hS hL hd fp_ak_24 dd_ak_beginRound_2 (fun σ hL H locs hH hS => ?_)
  refine lv_aload_n x.1 x.2.1 dd_ak_beginRound_5 rfl (lv_at hl 0 rfl) ?_
  refine lv_iconst (v := nI 1) x.1 x.2.1 dd_ak_beginRound_6 (by decide +kernel) ?_
  refine kp_39 x hH hS hL hd fp_ak_14 dd_ak_beginRound_7 (fun σ hL H locs hH hS => ?_)
  refine lv_aload_n x.1 x.2.1 dd_ak_beginRound_10 rfl (lv_at hl 0 rfl) ?_
  refine mp_call x (wt_mv base) hG hB hl.1 (mp_invV (av := []) x hH (la12 hL hd) rfl rfl mn_ak_forgetAnswers mc_ak_forgetAnswers (Or.inl ww_113) ww_115 ww_1 rfl dd_ak_beginRound_11) (kk_A_forget hL hd) (Nat.le_trans (Nat.le_of_ble_eq_true rfl) hfr) (Nat.le_trans (Nat.le_of_ble_eq_true rfl) hlo) (Nat.le_trans (Nat.le_of_ble_eq_true rfl) hce) (Nat.le_trans (Nat.le_of_ble_eq_true rfl) hsl) hH hS (fun v σa t0 H locs hp50 ht0 hvm hzz hH hS => ?_) (fun _ _ _ _ _ hz _ _ _ _ _ => by cases hz.1)
  obtain ⟨ho, hL⟩ := hp50
  cases ho
  refine W.eq (g2 := F0 m 14 ls []) rfl ?_
  exact mp_rv x hr hlk (by decide) (by decide) hH hS (fun _ => ⟨rfl, hL⟩) dd_ak_beginRound_14
set_option maxRecDepth 100000 in
set_option maxHeartbeats 4000000 in
theorem kk_A_runs {l : Launch} {D : va_G} {ar : Nat → ClassId} {base : Nat} {σ : mp_M} {ad : Nat → Nat → Nat} {rg : Nat → Bool} {pl : Nat → Nat} {V M : fV} {d : Nat} (hL : Lay ar ad rg pl V M σ) (hd : dk rg d) : CN l D ar base yy_ak_runs prog_2_method_2_code 1 (Option.some Jvm.ClassFile.FieldType.boolean) [] 0 0 0 0 [.ref (ad 12 d)] σ (fun o σ' _ => o = .returned (some (.int (if V 39 d = 0 then nI 0 else nI 1))) ∧ σ' = σ) := by
  refine mp_in (Nat.le_of_ble_eq_true rfl) ?_
  intro p e R s m below meth c x hfr hlo hce hsl hr hlk hin hex hG hB ls H hH0 hH hS hl
  have hl : lv_has ls 1 [(0, .ref (ad 12 d))] := hl
  refine lv_aload_n x.1 x.2.1 dd_ak_runs_0 rfl (lv_at hl 0 rfl) ?_
  refine mp_get x hH (la12 hL hd) fg_ak_14 rfl dd_ak_runs_1 ?_
  refine lv_if_eq (tgt := 11) x.1 x.2.1 dd_ak_runs_4 (by decide) (fun c51 => ?_) (fun c51 => ?_)
  · refine lv_iconst (v := nI 0) x.1 x.2.1 dd_ak_runs_11 (by decide +kernel) ?_
    exact mp_rz x hr (by decide) hlk (by decide) (by decide) hH hS (fun _ => ⟨(congrArg (fun z => Outcome.returned (some (.int z))) ((if_pos c51).symm)), rfl⟩) dd_ak_runs_12
  · refine lv_iconst (v := nI 1) x.1 x.2.1 dd_ak_runs_7 (by decide +kernel) ?_
    refine lv_goto (tgt := 12) x.1 x.2.1 dd_ak_runs_8 (by decide) ?_
    exact mp_rz x hr (by decide) hlk (by decide) (by decide) hH hS (fun _ => ⟨(congrArg (fun z => Outcome.returned (some (.int z))) ((if_neg c51).symm)), rfl⟩) dd_ak_runs_12
def sb2 (V : fV) (d : Nat) : fV := sfg (mu (if 0 < V 42 d then mu V 37 d (V 43 d) else V) 39 d (nI 2)) d
set_option maxRecDepth 100000 in
set_option maxHeartbeats 4000000 in
theorem kk_A_beginPhaseTwo {l : Launch} {D : va_G} {ar : Nat → ClassId} {base : Nat} {σ : mp_M} {ad : Nat → Nat → Nat} {rg : Nat → Bool} {pl : Nat → Nat} {V M : fV} {d : Nat} (hL : Lay ar ad rg pl V M σ) (hd : dk rg d) : CN l D ar base yy_ak_beginPhaseTwo prog_2_method_6_code 1 (Option.none : Option Jvm.ClassFile.FieldType) [] 1 12 0 0 [.ref (ad 12 d)] σ (fun o σ' _ => o = .returned none ∧ Lay ar ad rg pl (sb2 V d) M σ') := by
  refine mp_in (Nat.le_of_ble_eq_true rfl) ?_
  intro p e R s m below meth c x hfr hlo hce hsl hr hlk hin hex hG hB ls H hH0 hH hS hl
  have hl : lv_has ls 1 [(0, .ref (ad 12 d))] := hl
  refine lv_aload_n x.1 x.2.1 dd_ak_beginPhaseTwo_0 rfl (lv_at hl 0 rfl) ?_
  refine mp_get x hH (la12 hL hd) fg_ak_33 rfl dd_ak_beginPhaseTwo_1 ?_
  refine lv_if_le (tgt := 15) x.1 x.2.1 dd_ak_beginPhaseTwo_4 (by decide) (fun c52 => ?_) (fun c52 => ?_)
  · refine lv_aload_n x.1 x.2.1 dd_ak_beginPhaseTwo_15 rfl (lv_at hl 0 rfl) ?_
    refine lv_iconst (v := nI 2) x.1 x.2.1 dd_ak_beginPhaseTwo_16 (by decide +kernel) ?_
    refine kp_39 x hH hS hL hd fp_ak_14 dd_ak_beginPhaseTwo_17 (fun σ hL H locs hH hS => ?_)
    refine lv_aload_n x.1 x.2.1 dd_ak_beginPhaseTwo_20 rfl (lv_at hl 0 rfl) ?_
    refine mp_call x (wt_mv base) hG hB hl.1 (mp_invV (av := []) x hH (la12 hL hd) rfl rfl mn_ak_forgetAnswers mc_ak_forgetAnswers (Or.inl ww_113) ww_115 ww_1 rfl dd_ak_beginPhaseTwo_21) (kk_A_forget hL hd) (Nat.le_trans (Nat.le_of_ble_eq_true rfl) hfr) (Nat.le_trans (Nat.le_of_ble_eq_true rfl) hlo) (Nat.le_trans (Nat.le_of_ble_eq_true rfl) hce) (Nat.le_trans (Nat.le_of_ble_eq_true rfl) hsl) hH hS (fun v σa t0 H locs hp53 ht0 hvm hzz hH hS => ?_) (fun _ _ _ _ _ hz _ _ _ _ _ => by cases hz.1)
    obtain ⟨ho, hL⟩ := hp53
    cases ho
    refine W.eq (g2 := F0 m 24 ls []) rfl ?_
    exact mp_rv x hr hlk (by decide) (by decide) hH hS (fun _ => ⟨rfl, by unfold sb2; rw [if_neg (Int32.not_lt.mpr c52)]; exact hL⟩) dd_ak_beginPhaseTwo_24
  · refine lv_aload_n x.1 x.2.1 dd_ak_beginPhaseTwo_7 rfl (lv_at hl 0 rfl) ?_
    refine lv_aload_n x.1 x.2.1 dd_ak_beginPhaseTwo_8 rfl (lv_at hl 0 rfl) ?_
    refine mp_get x hH (la12 hL hd) fg_ak_36 rfl dd_ak_beginPhaseTwo_9 ?_
    refine kp_37 x hH hS hL hd fp_ak_21 dd_ak_beginPhaseTwo_12 (fun σ hL H locs hH hS => ?_)
    refine lv_aload_n x.1 x.2.1 dd_ak_beginPhaseTwo_15 rfl (lv_at hl 0 rfl) ?_
    refine lv_iconst (v := nI 2) x.1 x.2.1 dd_ak_beginPhaseTwo_16 (by decide +kernel) ?_
    refine kp_39 x hH hS hL hd fp_ak_14 dd_ak_beginPhaseTwo_17 (fun σ hL H locs hH hS => ?_)
    refine lv_aload_n x.1 x.2.1 dd_ak_beginPhaseTwo_20 rfl (lv_at hl 0 rfl) ?_
    refine mp_call x (wt_mv base) hG hB hl.1 (mp_invV (av := []) x hH (la12 hL hd) rfl rfl mn_ak_forgetAnswers mc_ak_forgetAnswers (Or.inl ww_113) ww_115 ww_1 rfl dd_ak_beginPhaseTwo_21) (kk_A_forget hL hd) (Nat.le_trans (Nat.le_of_ble_eq_true rfl) hfr) (Nat.le_trans (Nat.le_of_ble_eq_true rfl) hlo) (Nat.le_trans (Nat.le_of_ble_eq_true rfl) hce) (Nat.le_trans (Nat.le_of_ble_eq_true rfl) hsl) hH hS (fun v σa t0 H locs hp54 ht0 hvm hzz hH hS => ?_) (fun _ _ _ _ _ hz _ _ _ _ _ => by cases hz.1)
    obtain ⟨ho, hL⟩ := hp54
    cases ho
    refine W.eq (g2 := F0 m 24 ls []) rfl ?_
    exact mp_rv x hr hlk (by decide) (by decide) hH hS (fun _ => ⟨rfl, by unfold sb2; rw [if_pos (Int32.not_le.mp c52)]; exact hL⟩) dd_ak_beginPhaseTwo_24
def wts (V : fV) (d t : Nat) (k : Int32) : Int32 := if V 39 d = k ∧ V 48 t = V 36 d ∧ V 49 t = V 38 d then nI 1 else nI 0
set_option maxRecDepth 100000 in
set_option maxHeartbeats 4000000 in
theorem kk_A_waitsFor {l : Launch} {D : va_G} {ar : Nat → ClassId} {base : Nat} {σ : mp_M} {ad : Nat → Nat → Nat} {rg : Nat → Bool} {pl : Nat → Nat} {V M : fV} {d t : Nat} {k : Int32} (hL : Lay ar ad rg pl V M σ) (hd : dk rg d) (ht : t < 102) : CN l D ar base yy_ak_waitsFor prog_2_method_8_code 3 (Option.some Jvm.ClassFile.FieldType.boolean) [] 0 0 0 0 [.ref (ad 12 d), .ref (ad 4 t), .int k] σ (fun o σ' _ => o = .returned (some (.int (wts V d t k))) ∧ σ' = σ) := by
  refine mp_in (Nat.le_of_ble_eq_true rfl) ?_
  intro p e R s m below meth c x hfr hlo hce hsl hr hlk hin hex hG hB ls H hH0 hH hS hl
  have hl : lv_has ls 3 [(0, .ref (ad 12 d)), (1, .ref (ad 4 t)), (2, .int k)] := hl
  refine lv_aload_n x.1 x.2.1 dd_ak_waitsFor_0 rfl (lv_at hl 0 rfl) ?_
  refine mp_get x hH (la12 hL hd) fg_ak_14 rfl dd_ak_waitsFor_1 ?_
  refine lv_iload_n x.1 x.2.1 dd_ak_waitsFor_4 rfl (lv_at hl 2 rfl) ?_
  refine lv_icmp_ne (tgt := 34) x.1 x.2.1 dd_ak_waitsFor_5 (by decide) (fun c55 => ?_) (fun c55 => ?_)
  · refine lv_iconst (v := nI 0) x.1 x.2.1 dd_ak_waitsFor_34 (by decide +kernel) ?_
    exact mp_rz x hr (by decide) hlk (by decide) (by decide) hH hS (fun _ => ⟨(congrArg (fun z => Outcome.returned (some (.int z))) (by simp [wts, c55])), rfl⟩) dd_ak_waitsFor_35
  · refine lv_aload_n x.1 x.2.1 dd_ak_waitsFor_8 rfl (lv_at hl 1 rfl) ?_
    refine mp_get x hH (la4 hL ht) fg_ak_42 rfl dd_ak_waitsFor_9 ?_
    refine lv_aload_n x.1 x.2.1 dd_ak_waitsFor_12 rfl (lv_at hl 0 rfl) ?_
    refine mp_get x hH (la12 hL hd) fg_ak_18 rfl dd_ak_waitsFor_13 ?_
    refine lv_icmp_ne (tgt := 34) x.1 x.2.1 dd_ak_waitsFor_16 (by decide) (fun c56 => ?_) (fun c56 => ?_)
    · refine lv_iconst (v := nI 0) x.1 x.2.1 dd_ak_waitsFor_34 (by decide +kernel) ?_
      exact mp_rz x hr (by decide) hlk (by decide) (by decide) hH hS (fun _ => ⟨(congrArg (fun z => Outcome.returned (some (.int z))) (by simp [wts, c55, c56])), rfl⟩) dd_ak_waitsFor_35
    · refine lv_aload_n x.1 x.2.1 dd_ak_waitsFor_19 rfl (lv_at hl 1 rfl) ?_
      refine mp_get x hH (la4 hL ht) fg_ak_45 rfl dd_ak_waitsFor_20 ?_
      refine lv_aload_n x.1 x.2.1 dd_ak_waitsFor_23 rfl (lv_at hl 0 rfl) ?_
      refine mp_get x hH (la12 hL hd) fg_ak_24 rfl dd_ak_waitsFor_24 ?_
      refine lv_icmp_ne (tgt := 34) x.1 x.2.1 dd_ak_waitsFor_27 (by decide) (fun c57 => ?_) (fun c57 => ?_)
      · refine lv_iconst (v := nI 0) x.1 x.2.1 dd_ak_waitsFor_34 (by decide +kernel) ?_
        exact mp_rz x hr (by decide) hlk (by decide) (by decide) hH hS (fun _ => ⟨(congrArg (fun z => Outcome.returned (some (.int z))) (by simp [wts, c55, c56, c57])), rfl⟩) dd_ak_waitsFor_35
      · refine lv_iconst (v := nI 1) x.1 x.2.1 dd_ak_waitsFor_30 (by decide +kernel) ?_
        refine lv_goto (tgt := 35) x.1 x.2.1 dd_ak_waitsFor_31 (by decide) ?_
        exact mp_rz x hr (by decide) hlk (by decide) (by decide) hH hS (fun _ => ⟨(congrArg (fun z => Outcome.returned (some (.int z))) (by simp [wts, c55, c56, c57])), rfl⟩) dd_ak_waitsFor_35
def sca (V : fV) (d t : Nat) : fV := if V 42 d < V 50 t then mu (mu (mu V 40 d (V 40 d ||| nI 1 <<< (V 45 t &&& 31))) 42 d (V 50 t)) 43 d (V 51 t) else mu V 40 d (V 40 d ||| nI 1 <<< (V 45 t &&& 31))
def shr (V : fV) (d t : Nat) : fV := if ¬ V 39 d = 0 ∧ V 48 t = V 36 d then mu V 41 d (if V 41 d < V 50 t then V 50 t else V 41 d) else V
set_option maxRecDepth 100000 in
set_option maxHeartbeats 4000000 in
theorem kk_A_countAnswer {l : Launch} {D : va_G} {ar : Nat → ClassId} {base : Nat} {σ : mp_M} {ad : Nat → Nat → Nat} {rg : Nat → Bool} {pl : Nat → Nat} {V M : fV} {d t : Nat} (hL : Lay ar ad rg pl V M σ) (hd : dk rg d) (ht : t < 102) : CN l D ar base yy_ak_countAnswer prog_2_method_9_code 2 (Option.none : Option Jvm.ClassFile.FieldType) [] 0 0 0 0 [.ref (ad 12 d), .ref (ad 4 t)] σ (fun o σ' _ => o = .returned none ∧ Lay ar ad rg pl (sca V d t) M σ') := by
  refine mp_in (Nat.le_of_ble_eq_true rfl) ?_
  intro p e R s m below meth c x hfr hlo hce hsl hr hlk hin hex hG hB ls H hH0 hH hS hl
  have hl : lv_has ls 2 [(0, .ref (ad 12 d)), (1, .ref (ad 4 t))] := hl
  refine lv_aload_n x.1 x.2.1 dd_ak_countAnswer_0 rfl (lv_at hl 0 rfl) ?_
  refine lv_dup x.1 x.2.1 dd_ak_countAnswer_1 rfl ?_
  refine mp_get x hH (la12 hL hd) fg_ak_39 rfl dd_ak_countAnswer_2 ?_
  refine lv_iconst (v := nI 1) x.1 x.2.1 dd_ak_countAnswer_5 (by decide +kernel) ?_
  refine lv_aload_n x.1 x.2.1 dd_ak_countAnswer_6 rfl (lv_at hl 1 rfl) ?_
  refine mp_get x hH (la4 hL ht) fg_ak_46 rfl dd_ak_countAnswer_7 ?_
  refine lv_ishl x.1 x.2.1 dd_ak_countAnswer_10 ?_
  refine lv_ior x.1 x.2.1 dd_ak_countAnswer_11 ?_
  refine kp_40 x hH hS hL hd fp_ak_39 dd_ak_countAnswer_12 (fun σ hL H locs hH hS => ?_)
  refine lv_aload_n x.1 x.2.1 dd_ak_countAnswer_15 rfl (lv_at hl 1 rfl) ?_
  refine mp_get x hH (la4 hL ht) fg_ak_49 rfl dd_ak_countAnswer_16 ?_
  refine mn_top (w := V 50 t) (mu_k (by decide)) ?_
  refine lv_aload_n x.1 x.2.1 dd_ak_countAnswer_19 rfl (lv_at hl 0 rfl) ?_
  refine mp_get x hH (la12 hL hd) fg_ak_33 rfl dd_ak_countAnswer_20 ?_
  refine mn_top (w := V 42 d) (mu_k (by decide)) ?_
  refine lv_icmp_le (tgt := 42) x.1 x.2.1 dd_ak_countAnswer_23 (by decide) (fun c58 => ?_) (fun c58 => ?_)
  · exact mp_rv x hr hlk (by decide) (by decide) hH hS (fun _ => ⟨rfl, by unfold sca; rw [if_neg (Int32.not_lt.mpr c58)]; exact hL⟩) dd_ak_countAnswer_42
  · refine lv_aload_n x.1 x.2.1 dd_ak_countAnswer_26 rfl (lv_at hl 0 rfl) ?_
    refine lv_aload_n x.1 x.2.1 dd_ak_countAnswer_27 rfl (lv_at hl 1 rfl) ?_
    refine mp_get x hH (la4 hL ht) fg_ak_49 rfl dd_ak_countAnswer_28 ?_
    refine mn_top (w := V 50 t) (mu_k (by decide)) ?_
    refine kp_42 x hH hS hL hd fp_ak_33 dd_ak_countAnswer_31 (fun σ hL H locs hH hS => ?_)
    refine lv_aload_n x.1 x.2.1 dd_ak_countAnswer_34 rfl (lv_at hl 0 rfl) ?_
    refine lv_aload_n x.1 x.2.1 dd_ak_countAnswer_35 rfl (lv_at hl 1 rfl) ?_
    refine mp_get x hH (la4 hL ht) fg_ak_52 rfl dd_ak_countAnswer_36 ?_
    refine mn_top (w := V 51 t) ((mu_k (by decide)).trans (mu_k (by decide))) ?_
    refine kp_43 x hH hS hL hd fp_ak_36 dd_ak_countAnswer_39 (fun σ hL H locs hH hS => ?_)
    exact mp_rv x hr hlk (by decide) (by decide) hH hS (fun _ => ⟨rfl, by unfold sca; rw [if_pos (Int32.not_le.mp c58)]; exact hL⟩) dd_ak_countAnswer_42
set_option maxRecDepth 100000 in
set_option maxHeartbeats 4000000 in
theorem kk_A_hearRefusal {l : Launch} {D : va_G} {ar : Nat → ClassId} {base : Nat} {σ : mp_M} {ad : Nat → Nat → Nat} {rg : Nat → Bool} {pl : Nat → Nat} {V M : fV} {d t : Nat} (hL : Lay ar ad rg pl V M σ) (hd : dk rg d) (ht : t < 102) : CN l D ar base yy_ak_hearRefusal prog_2_method_10_code 2 (Option.none : Option Jvm.ClassFile.FieldType) [] 1 14 0 0 [.ref (ad 12 d), .ref (ad 4 t)] σ (fun o σ' _ => o = .returned none ∧ Lay ar ad rg pl (shr V d t) M σ') := by
  refine mp_in (Nat.le_of_ble_eq_true rfl) ?_
  intro p e R s m below meth c x hfr hlo hce hsl hr hlk hin hex hG hB ls H hH0 hH hS hl
  have hl : lv_has ls 2 [(0, .ref (ad 12 d)), (1, .ref (ad 4 t))] := hl
  refine lv_aload_n x.1 x.2.1 dd_ak_hearRefusal_0 rfl (lv_at hl 0 rfl) ?_
  refine mp_call x (wt_mv base) hG hB hl.1 (mp_invV (av := []) x hH (la12 hL hd) rfl rfl mn_ak_runs mc_ak_runs (Or.inl ww_603) ww_523 ww_20 rfl dd_ak_hearRefusal_1) (kk_A_runs hL hd) (Nat.le_trans (Nat.le_of_ble_eq_true rfl) hfr) (Nat.le_trans (Nat.le_of_ble_eq_true rfl) hlo) (Nat.le_trans (Nat.le_of_ble_eq_true rfl) hce) (Nat.le_trans (Nat.le_of_ble_eq_true rfl) hsl) hH hS (fun v σa t0 H locs hp59 ht0 hvm hzz hH hS => ?_) (fun _ _ _ _ _ hz _ _ _ _ _ => by cases hz.1)
  obtain ⟨ho, hσ⟩ := hp59
  cases ho
  rw [hσ] at hH
  refine W.eq (g2 := F0 m 4 ls [.int (if V 39 d = 0 then nI 0 else nI 1)]) rfl ?_
  refine lv_if_eq (tgt := 33) x.1 x.2.1 dd_ak_hearRefusal_4 (by decide) (fun c60 => ?_) (fun c60 => ?_)
  · exact mp_rv x hr hlk (by decide) (by decide) hH hS (fun _ => ⟨rfl, by unfold shr; rw [if_neg (fun z => by rw [if_neg z.1] at c60; exact absurd c60 (by decide +kernel))]; exact hL⟩) dd_ak_hearRefusal_33
  · refine lv_aload_n x.1 x.2.1 dd_ak_hearRefusal_7 rfl (lv_at hl 1 rfl) ?_
    refine mp_get x hH (la4 hL ht) fg_ak_42 rfl dd_ak_hearRefusal_8 ?_
    refine lv_aload_n x.1 x.2.1 dd_ak_hearRefusal_11 rfl (lv_at hl 0 rfl) ?_
    refine mp_get x hH (la12 hL hd) fg_ak_18 rfl dd_ak_hearRefusal_12 ?_
    refine lv_icmp_ne (tgt := 33) x.1 x.2.1 dd_ak_hearRefusal_15 (by decide) (fun c61 => ?_) (fun c61 => ?_)
    · exact mp_rv x hr hlk (by decide) (by decide) hH hS (fun _ => ⟨rfl, by unfold shr; rw [if_neg (fun z => c61 z.2)]; exact hL⟩) dd_ak_hearRefusal_33
    · refine lv_aload_n x.1 x.2.1 dd_ak_hearRefusal_18 rfl (lv_at hl 0 rfl) ?_
      refine lv_aload_n x.1 x.2.1 dd_ak_hearRefusal_19 rfl (lv_at hl 0 rfl) ?_
      refine mp_get x hH (la12 hL hd) fg_ak_27 rfl dd_ak_hearRefusal_20 ?_
      refine lv_aload_n x.1 x.2.1 dd_ak_hearRefusal_23 rfl (lv_at hl 1 rfl) ?_
      refine mp_get x hH (la4 hL ht) fg_ak_49 rfl dd_ak_hearRefusal_24 ?_
      refine mp_call x (wt_mv base) hG hB hl.1 (mp_invS (av := [.int (V 41 d), .int (V 50 t)]) x mn_jm_max mc_jm_max (Or.inl ww_604) ww_476 ww_67 rfl dd_ak_hearRefusal_27) (kk_jm_max ) (Nat.le_trans (Nat.le_of_ble_eq_true rfl) hfr) (Nat.le_trans (Nat.le_of_ble_eq_true rfl) hlo) (Nat.le_trans (Nat.le_of_ble_eq_true rfl) hce) (Nat.le_trans (Nat.le_of_ble_eq_true rfl) hsl) hH hS (fun v σa t0 H locs hp62 ht0 hvm hzz hH hS => ?_) (fun _ _ _ _ _ hz _ _ _ _ _ => by cases hz.1)
      obtain ⟨ho, hσ⟩ := hp62
      cases ho
      rw [hσ] at hH
      refine W.eq (g2 := F0 m 30 ls [.int (if V 41 d < V 50 t then V 50 t else V 41 d), .ref (ad 12 d)]) rfl ?_
      refine kp_41 x hH hS hL hd fp_ak_27 dd_ak_hearRefusal_30 (fun σ hL H locs hH hS => ?_)
      exact mp_rv x hr hlk (by decide) (by decide) hH hS (fun _ => ⟨rfl, by unfold shr; rw [if_pos (show ¬ V 39 d = 0 ∧ V 48 t = V 36 d from ⟨fun z => c60 (if_pos z), c61⟩)]; exact hL⟩) dd_ak_hearRefusal_33
def swr (V : fV) (t : Nat) (k a b c n : Int32) (d nc : Nat) : fV := bcm (mu (mu (mu (mu (mu (mu (mu (mu V 44 t k) 45 t a) 47 t b) 48 t c) 49 t n) 50 t (nI 0)) 51 t (-1)) 52 t (nI nc)) (1000 + t) (100 + d) nc
set_option maxRecDepth 100000 in
set_option maxHeartbeats 4000000 in
theorem kk_L_write {l : Launch} {D : va_G} {ar : Nat → ClassId} {base : Nat} {σ : mp_M} {ad : Nat → Nat → Nat} {rg : Nat → Bool} {pl : Nat → Nat} {V M : fV} {t d nc : Nat} {k a b cc nn : Int32} (hL : Lay ar ad rg pl V M σ) (ht : t < 102) (hd : dk rg d) (hc : V 34 d = nI nc) (hc2 : nc ≤ 12) : CN l D ar base yy_lt_write prog_4_method_2_code 7 (Option.none : Option Jvm.ClassFile.FieldType) [] 1 14 0 0 [.ref (ad 4 t), .int k, .int a, .int b, .int cc, .int nn, .ref (ad 10 d)] σ (fun o σ' _ => o = .returned none ∧ Lay ar ad rg pl (swr V t k a b cc nn d nc) M σ') := by
  refine mp_in (Nat.le_of_ble_eq_true rfl) ?_
  intro p e R s m below meth c x hfr hlo hce hsl hr hlk hin hex hG hB ls H hH0 hH hS hl
  have hl : lv_has ls 7 [(0, .ref (ad 4 t)), (1, .int k), (2, .int a), (3, .int b), (4, .int cc), (5, .int nn), (6, .ref (ad 10 d))] := hl
  refine lv_aload_n x.1 x.2.1 dd_lt_write_0 rfl (lv_at hl 0 rfl) ?_
  refine lv_iload_n x.1 x.2.1 dd_lt_write_1 rfl (lv_at hl 1 rfl) ?_
  refine kp_44 x hH hS hL ht fp_lt_22 dd_lt_write_2 (fun σ hL H locs hH hS => ?_)
  refine lv_aload_n x.1 x.2.1 dd_lt_write_5 rfl (lv_at hl 0 rfl) ?_
  refine lv_iload_n x.1 x.2.1 dd_lt_write_6 rfl (lv_at hl 2 rfl) ?_
  refine kp_45 x hH hS hL ht fp_lt_25 dd_lt_write_7 (fun σ hL H locs hH hS => ?_)
  refine lv_aload_n x.1 x.2.1 dd_lt_write_10 rfl (lv_at hl 0 rfl) ?_
  refine lv_iload_n x.1 x.2.1 dd_lt_write_11 rfl (lv_at hl 3 rfl) ?_
  refine kp_47 x hH hS hL ht fp_lt_28 dd_lt_write_12 (fun σ hL H locs hH hS => ?_)
  refine lv_aload_n x.1 x.2.1 dd_lt_write_15 rfl (lv_at hl 0 rfl) ?_
  refine lv_iload x.1 x.2.1 dd_lt_write_16 (lv_at hl 4 rfl) ?_
  refine kp_48 x hH hS hL ht fp_lt_31 dd_lt_write_18 (fun σ hL H locs hH hS => ?_)
  refine lv_aload_n x.1 x.2.1 dd_lt_write_21 rfl (lv_at hl 0 rfl) ?_
  refine lv_iload x.1 x.2.1 dd_lt_write_22 (lv_at hl 5 rfl) ?_
  refine kp_49 x hH hS hL ht fp_lt_34 dd_lt_write_24 (fun σ hL H locs hH hS => ?_)
  refine lv_aload_n x.1 x.2.1 dd_lt_write_27 rfl (lv_at hl 0 rfl) ?_
  refine lv_iconst (v := nI 0) x.1 x.2.1 dd_lt_write_28 (by decide +kernel) ?_
  refine kp_50 x hH hS hL ht fp_lt_37 dd_lt_write_29 (fun σ hL H locs hH hS => ?_)
  refine lv_aload_n x.1 x.2.1 dd_lt_write_32 rfl (lv_at hl 0 rfl) ?_
  refine lv_iconst (v := (-1)) x.1 x.2.1 dd_lt_write_33 (by decide +kernel) ?_
  refine kp_51 x hH hS hL ht fp_lt_18 dd_lt_write_34 (fun σ hL H locs hH hS => ?_)
  refine lv_aload_n x.1 x.2.1 dd_lt_write_37 rfl (lv_at hl 0 rfl) ?_
  refine mp_get x hH (la4 hL ht) fg_lt_12 rfl dd_lt_write_38 ?_
  refine lv_aload x.1 x.2.1 dd_lt_write_41 (lv_at hl 6 rfl) ?_
  refine mp_call x (wt_mv base) hG hB hl.1 (mp_invV (av := [.ref (ad 10 d)]) x hH (la5 hL ht) rfl rfl mn_pr_become mc_pr_become (Or.inr ⟨_, ww_494⟩) ww_496 ww_15 rfl dd_lt_write_43) (kk_pr_becomed (nc := nc) hL ht hd ((mu_k (by decide)).trans ((mu_k (by decide)).trans ((mu_k (by decide)).trans ((mu_k (by decide)).trans ((mu_k (by decide)).trans ((mu_k (by decide)).trans ((mu_k (by decide)).trans (hc)))))))) (by omega)) (Nat.le_trans (Nat.le_of_ble_eq_true rfl) hfr) (Nat.le_trans (Nat.le_of_ble_eq_true rfl) hlo) (Nat.le_trans (Nat.le_of_ble_eq_true rfl) hce) (Nat.le_trans (Nat.le_of_ble_eq_true rfl) hsl) hH hS (fun v σa t0 H locs hp63 ht0 hvm hzz hH hS => ?_) (fun _ _ _ _ _ hz _ _ _ _ _ => by cases hz.1)
  obtain ⟨ho, hL⟩ := hp63
  cases ho
  refine W.eq (g2 := F0 m 46 ls []) rfl ?_
  exact mp_rv x hr hlk (by decide) (by decide) hH hS (fun _ => ⟨rfl, hL⟩) dd_lt_write_46
def slb (V : fV) (t q nc : Nat) : fV := bcm (mu (mu (mu (mu (mu (mu (mu (mu (mu V 44 t (V 44 q)) 45 t (V 45 q)) 46 t (V 46 q)) 47 t (V 47 q)) 48 t (V 48 q)) 49 t (V 49 q)) 50 t (V 50 q)) 51 t (V 51 q)) 52 t (nI nc)) (1000 + t) (1000 + q) nc
set_option maxRecDepth 100000 in
set_option maxHeartbeats 4000000 in
theorem kk_L_become {l : Launch} {D : va_G} {ar : Nat → ClassId} {base : Nat} {σ : mp_M} {ad : Nat → Nat → Nat} {rg : Nat → Bool} {pl : Nat → Nat} {V M : fV} {t q nc : Nat} (hL : Lay ar ad rg pl V M σ) (ht : t < 102) (hq : q < 102) (hqt : q ≠ t) (hc : V 52 q = nI nc) (hc2 : nc ≤ 12) : CN l D ar base yy_lt_become prog_4_method_3_code 2 (Option.none : Option Jvm.ClassFile.FieldType) [] 1 14 0 0 [.ref (ad 4 t), .ref (ad 4 q)] σ (fun o σ' _ => o = .returned none ∧ Lay ar ad rg pl (slb V t q nc) M σ') := by
  refine mp_in (Nat.le_of_ble_eq_true rfl) ?_
  intro p e R s m below meth c x hfr hlo hce hsl hr hlk hin hex hG hB ls H hH0 hH hS hl
  have hl : lv_has ls 2 [(0, .ref (ad 4 t)), (1, .ref (ad 4 q))] := hl
  refine lv_aload_n x.1 x.2.1 dd_lt_become_0 rfl (lv_at hl 0 rfl) ?_
  refine lv_aload_n x.1 x.2.1 dd_lt_become_1 rfl (lv_at hl 1 rfl) ?_
  refine mp_get x hH (la4 hL hq) fg_lt_22 rfl dd_lt_become_2 ?_
  refine kp_44 x hH hS hL ht fp_lt_22 dd_lt_become_5 (fun σ hL H locs hH hS => ?_)
  refine lv_aload_n x.1 x.2.1 dd_lt_become_8 rfl (lv_at hl 0 rfl) ?_
  refine lv_aload_n x.1 x.2.1 dd_lt_become_9 rfl (lv_at hl 1 rfl) ?_
  refine mp_get x hH (la4 hL hq) fg_lt_25 rfl dd_lt_become_10 ?_
  refine mn_top (w := V 45 q) (mu_k (by decide)) ?_
  refine kp_45 x hH hS hL ht fp_lt_25 dd_lt_become_13 (fun σ hL H locs hH hS => ?_)
  refine lv_aload_n x.1 x.2.1 dd_lt_become_16 rfl (lv_at hl 0 rfl) ?_
  refine lv_aload_n x.1 x.2.1 dd_lt_become_17 rfl (lv_at hl 1 rfl) ?_
  refine mp_get x hH (la4 hL hq) fg_lt_44 rfl dd_lt_become_18 ?_
  refine mn_top (w := V 46 q) ((mu_k (by decide)).trans (mu_k (by decide))) ?_
  refine kp_46 x hH hS hL ht fp_lt_44 dd_lt_become_21 (fun σ hL H locs hH hS => ?_)
  refine lv_aload_n x.1 x.2.1 dd_lt_become_24 rfl (lv_at hl 0 rfl) ?_
  refine lv_aload_n x.1 x.2.1 dd_lt_become_25 rfl (lv_at hl 1 rfl) ?_
  refine mp_get x hH (la4 hL hq) fg_lt_28 rfl dd_lt_become_26 ?_
  refine mn_top (w := V 47 q) ((mu_k (by decide)).trans ((mu_k (by decide)).trans (mu_k (by decide)))) ?_
  refine kp_47 x hH hS hL ht fp_lt_28 dd_lt_become_29 (fun σ hL H locs hH hS => ?_)
  refine lv_aload_n x.1 x.2.1 dd_lt_become_32 rfl (lv_at hl 0 rfl) ?_
  refine lv_aload_n x.1 x.2.1 dd_lt_become_33 rfl (lv_at hl 1 rfl) ?_
  refine mp_get x hH (la4 hL hq) fg_lt_31 rfl dd_lt_become_34 ?_
  refine mn_top (w := V 48 q) ((mu_k (by decide)).trans ((mu_k (by decide)).trans ((mu_k (by decide)).trans (mu_k (by decide))))) ?_
  refine kp_48 x hH hS hL ht fp_lt_31 dd_lt_become_37 (fun σ hL H locs hH hS => ?_)
  refine lv_aload_n x.1 x.2.1 dd_lt_become_40 rfl (lv_at hl 0 rfl) ?_
  refine lv_aload_n x.1 x.2.1 dd_lt_become_41 rfl (lv_at hl 1 rfl) ?_
  refine mp_get x hH (la4 hL hq) fg_lt_34 rfl dd_lt_become_42 ?_
  refine mn_top (w := V 49 q) ((mu_k (by decide)).trans ((mu_k (by decide)).trans ((mu_k (by decide)).trans ((mu_k (by decide)).trans (mu_k (by decide)))))) ?_
  refine kp_49 x hH hS hL ht fp_lt_34 dd_lt_become_45 (fun σ hL H locs hH hS => ?_)
  refine lv_aload_n x.1 x.2.1 dd_lt_become_48 rfl (lv_at hl 0 rfl) ?_
  refine lv_aload_n x.1 x.2.1 dd_lt_become_49 rfl (lv_at hl 1 rfl) ?_
  refine mp_get x hH (la4 hL hq) fg_lt_37 rfl dd_lt_become_50 ?_
  refine mn_top (w := V 50 q) ((mu_k (by decide)).trans ((mu_k (by decide)).trans ((mu_k (by decide)).trans ((mu_k (by decide)).trans ((mu_k (by decide)).trans (mu_k (by decide))))))) ?_
  refine kp_50 x hH hS hL ht fp_lt_37 dd_lt_become_53 (fun σ hL H locs hH hS => ?_)
  refine lv_aload_n x.1 x.2.1 dd_lt_become_56 rfl (lv_at hl 0 rfl) ?_
  refine lv_aload_n x.1 x.2.1 dd_lt_become_57 rfl (lv_at hl 1 rfl) ?_
  refine mp_get x hH (la4 hL hq) fg_lt_18 rfl dd_lt_become_58 ?_
  refine mn_top (w := V 51 q) ((mu_k (by decide)).trans ((mu_k (by decide)).trans ((mu_k (by decide)).trans ((mu_k (by decide)).trans ((mu_k (by decide)).trans ((mu_k (by decide)).trans (mu_k (by decide)))))))) ?_
  refine kp_51 x hH hS hL ht fp_lt_18 dd_lt_become_61 (fun σ hL H locs hH hS => ?_)
  refine lv_aload_n x.1 x.2.1 dd_lt_become_64 rfl (lv_at hl 0 rfl) ?_
  refine mp_get x hH (la4 hL ht) fg_lt_12 rfl dd_lt_become_65 ?_
  refine lv_aload_n x.1 x.2.1 dd_lt_become_68 rfl (lv_at hl 1 rfl) ?_
  refine mp_get x hH (la4 hL hq) fg_lt_12 rfl dd_lt_become_69 ?_
  refine mp_call x (wt_mv base) hG hB hl.1 (mp_invV (av := [.ref (ad 5 q)]) x hH (la5 hL ht) rfl rfl mn_pr_become mc_pr_become (Or.inr ⟨_, ww_494⟩) ww_496 ww_15 rfl dd_lt_become_72) (kk_pr_becomet (nc := nc) hL ht hq hqt ((mu_k (by decide)).trans ((mu_k (by decide)).trans ((mu_k (by decide)).trans ((mu_k (by decide)).trans ((mu_k (by decide)).trans ((mu_k (by decide)).trans ((mu_k (by decide)).trans ((mu_k (by decide)).trans (hc))))))))) (by omega)) (Nat.le_trans (Nat.le_of_ble_eq_true rfl) hfr) (Nat.le_trans (Nat.le_of_ble_eq_true rfl) hlo) (Nat.le_trans (Nat.le_of_ble_eq_true rfl) hce) (Nat.le_trans (Nat.le_of_ble_eq_true rfl) hsl) hH hS (fun v σa t0 H locs hp64 ht0 hvm hzz hH hS => ?_) (fun _ _ _ _ _ hz _ _ _ _ _ => by cases hz.1)
  obtain ⟨ho, hL⟩ := hp64
  cases ho
  refine W.eq (g2 := F0 m 75 ls []) rfl ?_
  exact mp_rv x hr hlk (by decide) (by decide) hH hS (fun _ => ⟨rfl, hL⟩) dd_lt_become_75
def lpt (V : fV) (t j : Nat) : Int32 := if j ≤ 6 then V (44 + j) t else if j = 7 then sO (V 51 t) else if j = 8 then dO (V 51 t) else V 52 t
set_option maxRecDepth 100000 in
set_option maxHeartbeats 4000000 in
theorem kk_L_part {l : Launch} {D : va_G} {ar : Nat → ClassId} {base : Nat} {σ : mp_M} {ad : Nat → Nat → Nat} {rg : Nat → Bool} {pl : Nat → Nat} {V M : fV} {t j : Nat} (hL : Lay ar ad rg pl V M σ) (ht : t < 102) (hj : j < 10) : CN l D ar base yy_lt_part prog_4_method_4_code 2 (Option.some Jvm.ClassFile.FieldType.int) [] 1 12 0 0 [.ref (ad 4 t), .int (nI j)] σ (fun o σ' _ => o = .returned (some (.int (lpt V t j))) ∧ σ' = σ) := by
  refine mp_in (Nat.le_of_ble_eq_true rfl) ?_
  intro p e R s m below meth c x hfr hlo hce hsl hr hlk hin hex hG hB ls H hH0 hH hS hl
  have hl : lv_has ls 2 [(0, .ref (ad 4 t)), (1, .int (nI j))] := hl
  refine lv_iload_n x.1 x.2.1 dd_lt_part_0 rfl (lv_at hl 1 rfl) ?_
  have hsw : j = 0 ∨ j = 1 ∨ j = 2 ∨ j = 3 ∨ j = 4 ∨ j = 5 ∨ j = 6 ∨ j = 7 ∨ j = 8 ∨ j = 9 := by omega
  rcases hsw with rfl | rfl | rfl | rfl | rfl | rfl | rfl | rfl | rfl | rfl
  · refine lv_tableIn (tgt := 52) x.1 x.2.1 dd_lt_part_1 (by decide +kernel) (by decide +kernel) rfl (by decide) ?_
    refine lv_aload_n x.1 x.2.1 dd_lt_part_52 rfl (lv_at hl 0 rfl) ?_
    refine mp_get x hH (la4 hL ht) fg_lt_22 rfl dd_lt_part_53 ?_
    exact mp_ri x hr hlk (by decide) (by decide) hH hS (fun _ => ⟨(congrArg (fun z => Outcome.returned (some (.int z))) (by simp [lpt])), rfl⟩) dd_lt_part_56
  · refine lv_tableIn (tgt := 57) x.1 x.2.1 dd_lt_part_1 (by decide +kernel) (by decide +kernel) rfl (by decide) ?_
    refine lv_aload_n x.1 x.2.1 dd_lt_part_57 rfl (lv_at hl 0 rfl) ?_
    refine mp_get x hH (la4 hL ht) fg_lt_25 rfl dd_lt_part_58 ?_
    exact mp_ri x hr hlk (by decide) (by decide) hH hS (fun _ => ⟨(congrArg (fun z => Outcome.returned (some (.int z))) (by simp [lpt])), rfl⟩) dd_lt_part_61
  · refine lv_tableIn (tgt := 62) x.1 x.2.1 dd_lt_part_1 (by decide +kernel) (by decide +kernel) rfl (by decide) ?_
    refine lv_aload_n x.1 x.2.1 dd_lt_part_62 rfl (lv_at hl 0 rfl) ?_
    refine mp_get x hH (la4 hL ht) fg_lt_44 rfl dd_lt_part_63 ?_
    exact mp_ri x hr hlk (by decide) (by decide) hH hS (fun _ => ⟨(congrArg (fun z => Outcome.returned (some (.int z))) (by simp [lpt])), rfl⟩) dd_lt_part_66
  · refine lv_tableIn (tgt := 67) x.1 x.2.1 dd_lt_part_1 (by decide +kernel) (by decide +kernel) rfl (by decide) ?_
    refine lv_aload_n x.1 x.2.1 dd_lt_part_67 rfl (lv_at hl 0 rfl) ?_
    refine mp_get x hH (la4 hL ht) fg_lt_28 rfl dd_lt_part_68 ?_
    exact mp_ri x hr hlk (by decide) (by decide) hH hS (fun _ => ⟨(congrArg (fun z => Outcome.returned (some (.int z))) (by simp [lpt])), rfl⟩) dd_lt_part_71
  · refine lv_tableIn (tgt := 72) x.1 x.2.1 dd_lt_part_1 (by decide +kernel) (by decide +kernel) rfl (by decide) ?_
    refine lv_aload_n x.1 x.2.1 dd_lt_part_72 rfl (lv_at hl 0 rfl) ?_
    refine mp_get x hH (la4 hL ht) fg_lt_31 rfl dd_lt_part_73 ?_
    exact mp_ri x hr hlk (by decide) (by decide) hH hS (fun _ => ⟨(congrArg (fun z => Outcome.returned (some (.int z))) (by simp [lpt])), rfl⟩) dd_lt_part_76
  · refine lv_tableIn (tgt := 77) x.1 x.2.1 dd_lt_part_1 (by decide +kernel) (by decide +kernel) rfl (by decide) ?_
    refine lv_aload_n x.1 x.2.1 dd_lt_part_77 rfl (lv_at hl 0 rfl) ?_
    refine mp_get x hH (la4 hL ht) fg_lt_34 rfl dd_lt_part_78 ?_
    exact mp_ri x hr hlk (by decide) (by decide) hH hS (fun _ => ⟨(congrArg (fun z => Outcome.returned (some (.int z))) (by simp [lpt])), rfl⟩) dd_lt_part_81
  · refine lv_tableIn (tgt := 82) x.1 x.2.1 dd_lt_part_1 (by decide +kernel) (by decide +kernel) rfl (by decide) ?_
    refine lv_aload_n x.1 x.2.1 dd_lt_part_82 rfl (lv_at hl 0 rfl) ?_
    refine mp_get x hH (la4 hL ht) fg_lt_37 rfl dd_lt_part_83 ?_
    exact mp_ri x hr hlk (by decide) (by decide) hH hS (fun _ => ⟨(congrArg (fun z => Outcome.returned (some (.int z))) (by simp [lpt])), rfl⟩) dd_lt_part_86
  · refine lv_tableIn (tgt := 87) x.1 x.2.1 dd_lt_part_1 (by decide +kernel) (by decide +kernel) rfl (by decide) ?_
    refine lv_aload_n x.1 x.2.1 dd_lt_part_87 rfl (lv_at hl 0 rfl) ?_
    refine mp_get x hH (la4 hL ht) fg_lt_18 rfl dd_lt_part_88 ?_
    refine mp_call x (wt_mv base) hG hB hl.1 (mp_invS (av := [.int (V 51 t)]) x mn_sg_shopOf mc_sg_shopOf (Or.inr ⟨_, ww_660⟩) ww_661 ww_54 rfl dd_lt_part_91) (kk_sg_shopOf ) (Nat.le_trans (Nat.le_of_ble_eq_true rfl) hfr) (Nat.le_trans (Nat.le_of_ble_eq_true rfl) hlo) (Nat.le_trans (Nat.le_of_ble_eq_true rfl) hce) (Nat.le_trans (Nat.le_of_ble_eq_true rfl) hsl) hH hS (fun v σa t0 H locs hp65 ht0 hvm hzz hH hS => ?_) (fun _ _ _ _ _ hz _ _ _ _ _ => by cases hz.1)
    obtain ⟨ho, hσ⟩ := hp65
    cases ho
    rw [hσ] at hH
    refine W.eq (g2 := F0 m 94 ls [.int (sO (V 51 t))]) rfl ?_
    exact mp_ri x hr hlk (by decide) (by decide) hH hS (fun _ => ⟨(congrArg (fun z => Outcome.returned (some (.int z))) (by simp [lpt])), rfl⟩) dd_lt_part_94
  · refine lv_tableIn (tgt := 95) x.1 x.2.1 dd_lt_part_1 (by decide +kernel) (by decide +kernel) rfl (by decide) ?_
    refine lv_aload_n x.1 x.2.1 dd_lt_part_95 rfl (lv_at hl 0 rfl) ?_
    refine mp_get x hH (la4 hL ht) fg_lt_18 rfl dd_lt_part_96 ?_
    refine mp_call x (wt_mv base) hG hB hl.1 (mp_invS (av := [.int (V 51 t)]) x mn_sg_dayOf mc_sg_dayOf (Or.inr ⟨_, ww_663⟩) ww_453 ww_54 rfl dd_lt_part_99) (kk_sg_dayOf ) (Nat.le_trans (Nat.le_of_ble_eq_true rfl) hfr) (Nat.le_trans (Nat.le_of_ble_eq_true rfl) hlo) (Nat.le_trans (Nat.le_of_ble_eq_true rfl) hce) (Nat.le_trans (Nat.le_of_ble_eq_true rfl) hsl) hH hS (fun v σa t0 H locs hp66 ht0 hvm hzz hH hS => ?_) (fun _ _ _ _ _ hz _ _ _ _ _ => by cases hz.1)
    obtain ⟨ho, hσ⟩ := hp66
    cases ho
    rw [hσ] at hH
    refine W.eq (g2 := F0 m 102 ls [.int (dO (V 51 t))]) rfl ?_
    exact mp_ri x hr hlk (by decide) (by decide) hH hS (fun _ => ⟨(congrArg (fun z => Outcome.returned (some (.int z))) (by simp [lpt])), rfl⟩) dd_lt_part_102
  · refine lv_tableOut (tgt := 103) x.1 x.2.1 dd_lt_part_1 (by decide +kernel) (by decide) ?_
    refine lv_aload_n x.1 x.2.1 dd_lt_part_103 rfl (lv_at hl 0 rfl) ?_
    refine mp_get x hH (la4 hL ht) fg_lt_12 rfl dd_lt_part_104 ?_
    refine mp_get x hH (la5 hL ht) fg_lt_54 rfl dd_lt_part_107 ?_
    exact mp_ri x hr hlk (by decide) (by decide) hH hS (fun _ => ⟨(congrArg (fun z => Outcome.returned (some (.int z))) (by simp [lpt])), rfl⟩) dd_lt_part_110
