/-! PAIRS, ASKINGS AND LETTERS over the flat state. -/
def bcm (V : fV) (t q : Nat) : Nat → fV
  | 0 => V
  | n + 1 => mu (bcm V t q n) t n (V q n)
theorem bcm_o {V : fV} {t q n k i : Nat} (h : k ≠ t) : bcm V t q n k i = V k i := by
  induction n with
  | zero => rfl
  | succ n ih => exact (mu_k h).trans ih
def amg (V : fV) (d t c : Nat) : Nat → fV
  | 0 => V
  | n + 1 => mu (mu (amg V d t c n) (100 + d) (c + n) (V (1000 + t) (c + n))) 34 d (nI (c + n + 1))
theorem amg_34 {V : fV} {d t c n : Nat} (h : V 34 d = nI c) : amg V d t c n 34 d = nI (c + n) := by
  cases n with
  | zero => exact h
  | succ n => exact mu_s
theorem amg_o {V : fV} {d t c n k i : Nat} (h : k ≠ 100 + d) (h2 : k ≠ 34) : amg V d t c n k i = V k i := by
  induction n with
  | zero => rfl
  | succ n ih => exact ((mu_k h2).trans (mu_k h)).trans ih
set_option maxRecDepth 100000 in
set_option maxHeartbeats 4000000 in
theorem kk_pr_ofd {l : Launch} {D : va_G} {ar : Nat → ClassId} {base : Nat} {σ : mp_M} {ad : Nat → Nat → Nat} {rg : Nat → Bool} {pl : Nat → Nat} {V M : fV} {d nc j : Nat} (hL : Lay ar ad rg pl V M σ) (hd : dk rg d) (hc : V 34 d = nI nc) (hc2 : nc ≤ 12) (hj : j ≤ 12) : CN l D ar base yy_pr_of prog_6_method_2_code 2 (Option.some Jvm.ClassFile.FieldType.int) [] 0 0 0 0 [.ref (ad 10 d), .int (nI j)] σ (fun o σ' _ => o = .returned (some (.int (if j = 0 ∨ nc < j then (-1) else V (100 + d) (j - 1)))) ∧ σ' = σ) := by
  refine mp_in (Nat.le_of_ble_eq_true rfl) ?_
  intro p e R s m below meth c x hfr hlo hce hsl hr hlk hin hex hG hB ls H hH0 hH hS hl
  have hl : lv_has ls 2 [(0, .ref (ad 10 d)), (1, .int (nI j))] := hl
  have hc3 := hc
  refine lv_iload_n x.1 x.2.1 dd_pr_of_0 rfl (lv_at hl 1 rfl) ?_
  refine lv_iconst (v := nI 1) x.1 x.2.1 dd_pr_of_1 (by decide +kernel) ?_
  refine lv_icmp_lt (tgt := 13) x.1 x.2.1 dd_pr_of_2 (by decide) (fun c29 => ?_) (fun c29 => ?_)
  · have c29 : j < 1 := (cv_lt (a := j) (b := 1) (by omega) (by omega)).mp c29
    refine lv_iconst (v := (-1)) x.1 x.2.1 dd_pr_of_13 (by decide +kernel) ?_
    refine lv_goto (tgt := 25) x.1 x.2.1 dd_pr_of_14 (by decide) ?_
    exact mp_ri x hr hlk (by decide) (by decide) hH hS (fun _ => ⟨(congrArg (fun z => Outcome.returned (some (.int z))) ((if_pos (by omega)).symm)), rfl⟩) dd_pr_of_25
  · have c29 : ¬ (j < 1) := fun h => c29 ((cv_lt (a := j) (b := 1) (by omega) (by omega)).mpr h)
    refine lv_iload_n x.1 x.2.1 dd_pr_of_5 rfl (lv_at hl 1 rfl) ?_
    refine lv_aload_n x.1 x.2.1 dd_pr_of_6 rfl (lv_at hl 0 rfl) ?_
    refine mp_get x hH (la10 hL hd) fg_pr_15 rfl dd_pr_of_7 ?_
    refine mn_top (w := nI nc) (hc) ?_
    refine lv_icmp_le (tgt := 17) x.1 x.2.1 dd_pr_of_10 (by decide) (fun c30 => ?_) (fun c30 => ?_)
    · have c30 : j ≤ nc := (cv_le (a := j) (b := nc) (by omega) (by omega)).mp c30
      refine lv_aload_n x.1 x.2.1 dd_pr_of_17 rfl (lv_at hl 0 rfl) ?_
      refine mp_get x hH (la10 hL hd) fg_pr_9 rfl dd_pr_of_18 ?_
      refine lv_iload_n x.1 x.2.1 dd_pr_of_21 rfl (lv_at hl 1 rfl) ?_
      refine lv_iconst (v := nI 1) x.1 x.2.1 dd_pr_of_22 (by decide +kernel) ?_
      refine lv_isub x.1 x.2.1 dd_pr_of_23 ?_
      refine mn_top (w := nI (j - 1)) (pk_sub (by omega)) ?_
      refine krd_ld x hH hL (j := j - 1) hd (by omega) dd_pr_of_24 ?_
      exact mp_ri x hr hlk (by decide) (by decide) hH hS (fun _ => ⟨(congrArg (fun z => Outcome.returned (some (.int z))) ((if_neg (by omega)).symm)), rfl⟩) dd_pr_of_25
    · have c30 : ¬ (j ≤ nc) := fun h => c30 ((cv_le (a := j) (b := nc) (by omega) (by omega)).mpr h)
      refine lv_iconst (v := (-1)) x.1 x.2.1 dd_pr_of_13 (by decide +kernel) ?_
      refine lv_goto (tgt := 25) x.1 x.2.1 dd_pr_of_14 (by decide) ?_
      exact mp_ri x hr hlk (by decide) (by decide) hH hS (fun _ => ⟨(congrArg (fun z => Outcome.returned (some (.int z))) ((if_pos (by omega)).symm)), rfl⟩) dd_pr_of_25
set_option maxRecDepth 100000 in
set_option maxHeartbeats 4000000 in
theorem kk_pr_oft {l : Launch} {D : va_G} {ar : Nat → ClassId} {base : Nat} {σ : mp_M} {ad : Nat → Nat → Nat} {rg : Nat → Bool} {pl : Nat → Nat} {V M : fV} {t nc j : Nat} (hL : Lay ar ad rg pl V M σ) (hd : t < 102) (hc : V 52 t = nI nc) (hc2 : nc ≤ 12) (hj : j ≤ 12) : CN l D ar base yy_pr_of prog_6_method_2_code 2 (Option.some Jvm.ClassFile.FieldType.int) [] 0 0 0 0 [.ref (ad 5 t), .int (nI j)] σ (fun o σ' _ => o = .returned (some (.int (if j = 0 ∨ nc < j then (-1) else V (1000 + t) (j - 1)))) ∧ σ' = σ) := by
  refine mp_in (Nat.le_of_ble_eq_true rfl) ?_
  intro p e R s m below meth c x hfr hlo hce hsl hr hlk hin hex hG hB ls H hH0 hH hS hl
  have hl : lv_has ls 2 [(0, .ref (ad 5 t)), (1, .int (nI j))] := hl
  have hc3 := hc
  refine lv_iload_n x.1 x.2.1 dd_pr_of_0 rfl (lv_at hl 1 rfl) ?_
  refine lv_iconst (v := nI 1) x.1 x.2.1 dd_pr_of_1 (by decide +kernel) ?_
  refine lv_icmp_lt (tgt := 13) x.1 x.2.1 dd_pr_of_2 (by decide) (fun c31 => ?_) (fun c31 => ?_)
  · have c31 : j < 1 := (cv_lt (a := j) (b := 1) (by omega) (by omega)).mp c31
    refine lv_iconst (v := (-1)) x.1 x.2.1 dd_pr_of_13 (by decide +kernel) ?_
    refine lv_goto (tgt := 25) x.1 x.2.1 dd_pr_of_14 (by decide) ?_
    exact mp_ri x hr hlk (by decide) (by decide) hH hS (fun _ => ⟨(congrArg (fun z => Outcome.returned (some (.int z))) ((if_pos (by omega)).symm)), rfl⟩) dd_pr_of_25
  · have c31 : ¬ (j < 1) := fun h => c31 ((cv_lt (a := j) (b := 1) (by omega) (by omega)).mpr h)
    refine lv_iload_n x.1 x.2.1 dd_pr_of_5 rfl (lv_at hl 1 rfl) ?_
    refine lv_aload_n x.1 x.2.1 dd_pr_of_6 rfl (lv_at hl 0 rfl) ?_
    refine mp_get x hH (la5 hL hd) fg_pr_15 rfl dd_pr_of_7 ?_
    refine mn_top (w := nI nc) (hc) ?_
    refine lv_icmp_le (tgt := 17) x.1 x.2.1 dd_pr_of_10 (by decide) (fun c32 => ?_) (fun c32 => ?_)
    · have c32 : j ≤ nc := (cv_le (a := j) (b := nc) (by omega) (by omega)).mp c32
      refine lv_aload_n x.1 x.2.1 dd_pr_of_17 rfl (lv_at hl 0 rfl) ?_
      refine mp_get x hH (la5 hL hd) fg_pr_9 rfl dd_pr_of_18 ?_
      refine lv_iload_n x.1 x.2.1 dd_pr_of_21 rfl (lv_at hl 1 rfl) ?_
      refine lv_iconst (v := nI 1) x.1 x.2.1 dd_pr_of_22 (by decide +kernel) ?_
      refine lv_isub x.1 x.2.1 dd_pr_of_23 ?_
      refine mn_top (w := nI (j - 1)) (pk_sub (by omega)) ?_
      refine krt_ld x hH hL (j := j - 1) hd (by omega) dd_pr_of_24 ?_
      exact mp_ri x hr hlk (by decide) (by decide) hH hS (fun _ => ⟨(congrArg (fun z => Outcome.returned (some (.int z))) ((if_neg (by omega)).symm)), rfl⟩) dd_pr_of_25
    · have c32 : ¬ (j ≤ nc) := fun h => c32 ((cv_le (a := j) (b := nc) (by omega) (by omega)).mpr h)
      refine lv_iconst (v := (-1)) x.1 x.2.1 dd_pr_of_13 (by decide +kernel) ?_
      refine lv_goto (tgt := 25) x.1 x.2.1 dd_pr_of_14 (by decide) ?_
      exact mp_ri x hr hlk (by decide) (by decide) hH hS (fun _ => ⟨(congrArg (fun z => Outcome.returned (some (.int z))) ((if_pos (by omega)).symm)), rfl⟩) dd_pr_of_25
set_option maxRecDepth 100000 in
set_option maxHeartbeats 4000000 in
theorem kk_pr_last {l : Launch} {D : va_G} {ar : Nat → ClassId} {base : Nat} {σ : mp_M} {ad : Nat → Nat → Nat} {rg : Nat → Bool} {pl : Nat → Nat} {V M : fV} {d nc : Nat} (hL : Lay ar ad rg pl V M σ) (hd : dk rg d) (hc : V 34 d = nI nc) (hc2 : nc ≤ 12) : CN l D ar base yy_pr_last prog_6_method_3_code 1 (Option.some Jvm.ClassFile.FieldType.int) [] 1 13 0 0 [.ref (ad 10 d)] σ (fun o σ' _ => o = .returned (some (.int (if nc = 0 then (-1) else V (100 + d) (nc - 1)))) ∧ σ' = σ) := by
  refine mp_in (Nat.le_of_ble_eq_true rfl) ?_
  intro p e R s m below meth c x hfr hlo hce hsl hr hlk hin hex hG hB ls H hH0 hH hS hl
  have hl : lv_has ls 1 [(0, .ref (ad 10 d))] := hl
  refine lv_aload_n x.1 x.2.1 dd_pr_last_0 rfl (lv_at hl 0 rfl) ?_
  refine lv_aload_n x.1 x.2.1 dd_pr_last_1 rfl (lv_at hl 0 rfl) ?_
  refine mp_get x hH (la10 hL hd) fg_pr_15 rfl dd_pr_last_2 ?_
  refine mn_top (w := nI nc) (hc) ?_
  refine mp_call x (wt_mv base) hG hB hl.1 (mp_invV (av := [.int (nI nc)]) x hH (la10 hL hd) rfl rfl mn_pr_of mc_pr_of (Or.inl ww_448) ww_450 ww_7 rfl dd_pr_last_5) (kk_pr_ofd (j := nc) (nc := nc) hL hd (hc) (by omega) (by omega)) (Nat.le_trans (Nat.le_of_ble_eq_true rfl) hfr) (Nat.le_trans (Nat.le_of_ble_eq_true rfl) hlo) (Nat.le_trans (Nat.le_of_ble_eq_true rfl) hce) (Nat.le_trans (Nat.le_of_ble_eq_true rfl) hsl) hH hS (fun v σa t0 H locs hp33 ht0 hvm hzz hH hS => ?_) (fun _ _ _ _ _ hz _ _ _ _ _ => by cases hz.1)
  obtain ⟨ho, hσ⟩ := hp33
  cases ho
  rw [hσ] at hH
  refine W.eq (g2 := F0 m 8 ls [.int (if nc = 0 ∨ nc < nc then (-1) else V (100 + d) (nc - 1))]) rfl ?_
  exact mp_ri x hr hlk (by decide) (by decide) hH hS (fun _ => ⟨(congrArg (fun z => Outcome.returned (some (.int z))) (by simp)), rfl⟩) dd_pr_last_8
set_option maxRecDepth 100000 in
set_option maxHeartbeats 4000000 in
theorem kk_pr_add {l : Launch} {D : va_G} {ar : Nat → ClassId} {base : Nat} {σ : mp_M} {ad : Nat → Nat → Nat} {rg : Nat → Bool} {pl : Nat → Nat} {V M : fV} {d nc : Nat} {k : Int32} (hL : Lay ar ad rg pl V M σ) (hd : dk rg d) (hc : V 34 d = nI nc) (hc2 : nc < 12) : CN l D ar base yy_pr_add prog_6_method_4_code 2 (Option.none : Option Jvm.ClassFile.FieldType) [] 0 0 0 0 [.ref (ad 10 d), .int k] σ (fun o σ' _ => o = .returned none ∧ Lay ar ad rg pl (mu (mu V (100 + d) nc k) 34 d (nI (nc + 1))) M σ') := by
  refine mp_in (Nat.le_of_ble_eq_true rfl) ?_
  intro p e R s m below meth c x hfr hlo hce hsl hr hlk hin hex hG hB ls H hH0 hH hS hl
  have hl : lv_has ls 2 [(0, .ref (ad 10 d)), (1, .int k)] := hl
  have hd5 := dk_le hd
  refine lv_aload_n x.1 x.2.1 dd_pr_add_0 rfl (lv_at hl 0 rfl) ?_
  refine mp_get x hH (la10 hL hd) fg_pr_15 rfl dd_pr_add_1 ?_
  refine mn_top (w := nI nc) (hc) ?_
  refine lv_bipush (v := nI 12) x.1 x.2.1 dd_pr_add_4 (by decide +kernel) ?_
  refine lv_icmp_ge (tgt := 29) x.1 x.2.1 dd_pr_add_6 (by decide) (fun c34 => absurd c34 (fun h => absurd ((cv_le (a := 12) (b := nc) (by omega) (by omega)).mp h) (by omega))) (fun c34 => ?_)
  refine lv_aload_n x.1 x.2.1 dd_pr_add_9 rfl (lv_at hl 0 rfl) ?_
  refine mp_get x hH (la10 hL hd) fg_pr_9 rfl dd_pr_add_10 ?_
  refine lv_aload_n x.1 x.2.1 dd_pr_add_13 rfl (lv_at hl 0 rfl) ?_
  refine mp_get x hH (la10 hL hd) fg_pr_15 rfl dd_pr_add_14 ?_
  refine mn_top (w := nI nc) (hc) ?_
  refine lv_iload_n x.1 x.2.1 dd_pr_add_17 rfl (lv_at hl 1 rfl) ?_
  refine krd_st x hH hS hL (j := nc) hd (by omega) dd_pr_add_18 (fun σ hL H locs hH hS => ?_)
  refine lv_aload_n x.1 x.2.1 dd_pr_add_19 rfl (lv_at hl 0 rfl) ?_
  refine lv_dup x.1 x.2.1 dd_pr_add_20 rfl ?_
  refine mp_get x hH (la10 hL hd) fg_pr_15 rfl dd_pr_add_21 ?_
  refine mn_top (w := nI nc) ((mu_k (by omega)).trans (hc)) ?_
  refine lv_iconst (v := nI 1) x.1 x.2.1 dd_pr_add_24 (by decide +kernel) ?_
  refine lv_iadd x.1 x.2.1 dd_pr_add_25 ?_
  refine mn_top (w := nI (nc + 1)) (nI_add _ _) ?_
  refine kp_34 x hH hS hL hd fp_pr_15 dd_pr_add_26 (fun σ hL H locs hH hS => ?_)
  exact mp_rv x hr hlk (by decide) (by decide) hH hS (fun _ => ⟨rfl, hL⟩) dd_pr_add_29
set_option maxRecDepth 100000 in
set_option maxHeartbeats 4000000 in
theorem kk_pr_addMissing {l : Launch} {D : va_G} {ar : Nat → ClassId} {base : Nat} {σ : mp_M} {ad : Nat → Nat → Nat} {rg : Nat → Bool} {pl : Nat → Nat} {V M : fV} {d t nc n2 : Nat} (hL : Lay ar ad rg pl V M σ) (hd : dk rg d) (ht : t < 102) (hc : V 34 d = nI nc) (hc3 : V 52 t = nI n2) (hc4 : n2 ≤ 12) (hc5 : nc ≤ n2) : CN l D ar base yy_pr_addMissing prog_6_method_5_code 3 (Option.none : Option Jvm.ClassFile.FieldType) [] 1 14 0 0 [.ref (ad 10 d), .ref (ad 5 t)] σ (fun o σ' _ => o = .returned none ∧ Lay ar ad rg pl (amg V d t nc (n2 - nc)) M σ') := by
  refine mp_in (Nat.le_of_ble_eq_true rfl) ?_
  intro p e R s m below meth c x hfr hlo hce hsl hr hlk hin hex hG hB ls H hH0 hH hS hl
  have hl : lv_has ls 3 [(0, .ref (ad 10 d)), (1, .ref (ad 5 t))] := hl
  have hd5 := dk_le hd
  refine lv_aload_n x.1 x.2.1 dd_pr_addMissing_0 rfl (lv_at hl 0 rfl) ?_
  refine mp_get x hH (la10 hL hd) fg_pr_15 rfl dd_pr_addMissing_1 ?_
  refine mn_top (w := nI nc) (hc) ?_
  refine lv_iconst (v := nI 1) x.1 x.2.1 dd_pr_addMissing_4 (by decide +kernel) ?_
  refine lv_iadd x.1 x.2.1 dd_pr_addMissing_5 ?_
  refine mn_top (w := nI (nc + 1)) (nI_add _ _) ?_
  refine lv_istore_n (lv' := [(2, .int (nI (nc + 1))), (0, .ref (ad 10 d)), (1, .ref (ad 5 t))]) x.1 x.2.1 dd_pr_addMissing_6 rfl hl (by decide) rfl (fun ls hl => ?_)
  have loop35 : ∀ (n36 : Nat) (i : Nat) (σ : mp_M), nc + i ≤ n2 → Lay ar ad rg pl (amg V d t nc i) M σ → n2 - (nc + i) < n36 → ∀ (ls : Array Slot) (H : Heap) (locs : List Loc), lv_has ls 3 [(0, .ref (ad 10 d)), (1, .ref (ad 5 t)), (2, .int (nI (nc + i + 1)))] → HH D base σ H → va_S (mp_A base) s.heap H locs → W p l e R s m [.ref (ad 10 d), .ref (ad 5 t)].toArray below meth c H locs 0 0 (mp_Q below s 0 0 base (mp_P D cl_L base s (fun o σ' _ => o = .returned none ∧ Lay ar ad rg pl (amg V d t nc (n2 - nc)) M σ'))) (F0 m 7 ls []) := by
    intro n36
    induction n36 with
    | zero => intro i σ hi hL hmz; exact absurd hmz (Nat.not_lt_zero _)
    | succ n36 ihloop35 =>
      intro i σ hi hL hmz ls H locs hl hH hS
      refine lv_iload_n x.1 x.2.1 dd_pr_addMissing_7 rfl (lv_at hl 2 rfl) ?_
      refine lv_aload_n x.1 x.2.1 dd_pr_addMissing_8 rfl (lv_at hl 1 rfl) ?_
      refine mp_get x hH (la5 hL ht) fg_pr_15 rfl dd_pr_addMissing_9 ?_
      refine mn_top (w := nI n2) ((amg_o (by omega) (by decide)).trans hc3) ?_
      refine lv_icmp_gt (tgt := 30) x.1 x.2.1 dd_pr_addMissing_12 (by decide) (fun c37 => ?_) (fun c37 => ?_)
      · have c37 : n2 < nc + i + 1 := (cv_lt (a := n2) (b := nc + i + 1) (by omega) (by omega)).mp c37
        obtain rfl : i = n2 - nc := by omega
        exact mp_rv x hr hlk (by decide) (by decide) hH hS (fun _ => ⟨rfl, hL⟩) dd_pr_addMissing_30
      · have c37 : ¬ (n2 < nc + i + 1) := fun h => c37 ((cv_lt (a := n2) (b := nc + i + 1) (by omega) (by omega)).mpr h)
        refine lv_aload_n x.1 x.2.1 dd_pr_addMissing_15 rfl (lv_at hl 0 rfl) ?_
        refine lv_aload_n x.1 x.2.1 dd_pr_addMissing_16 rfl (lv_at hl 1 rfl) ?_
        refine lv_iload_n x.1 x.2.1 dd_pr_addMissing_17 rfl (lv_at hl 2 rfl) ?_
        refine mp_call x (wt_mv base) hG hB hl.1 (mp_invV (av := [.int (nI (nc + i + 1))]) x hH (la5 hL ht) rfl rfl mn_pr_of mc_pr_of (Or.inl ww_448) ww_450 ww_7 rfl dd_pr_addMissing_18) (kk_pr_oft (j := nc + i + 1) (nc := n2) hL ht ((amg_o (by omega) (by decide)).trans hc3) (by omega) (by omega)) (Nat.le_trans (Nat.le_of_ble_eq_true rfl) hfr) (Nat.le_trans (Nat.le_of_ble_eq_true rfl) hlo) (Nat.le_trans (Nat.le_of_ble_eq_true rfl) hce) (Nat.le_trans (Nat.le_of_ble_eq_true rfl) hsl) hH hS (fun v σa t0 H locs hp38 ht0 hvm hzz hH hS => ?_) (fun _ _ _ _ _ hz _ _ _ _ _ => by cases hz.1)
        obtain ⟨ho, hσ⟩ := hp38
        cases ho
        rw [hσ] at hH
        refine W.eq (g2 := F0 m 21 ls [.int (if nc + i + 1 = 0 ∨ n2 < (nc + i + 1) then (-1) else (amg V d t nc i) (1000 + t) ((nc + i + 1) - 1)), .ref (ad 10 d)]) rfl ?_
        refine mn_top (w := V (1000 + t) (nc + i)) ((if_neg (by omega)).trans (amg_o (by omega) (by omega))) ?_
        refine mp_call x (wt_mv base) hG hB hl.1 (mp_invV (av := [.int (V (1000 + t) (nc + i))]) x hH (la10 hL hd) rfl rfl mn_pr_add mc_pr_add (Or.inl ww_558) ww_560 ww_27 rfl dd_pr_addMissing_21) (kk_pr_add (nc := nc + i) hL hd (amg_34 hc) (by omega)) (Nat.le_trans (Nat.le_of_ble_eq_true rfl) hfr) (Nat.le_trans (Nat.le_of_ble_eq_true rfl) hlo) (Nat.le_trans (Nat.le_of_ble_eq_true rfl) hce) (Nat.le_trans (Nat.le_of_ble_eq_true rfl) hsl) hH hS (fun v σa t0 H locs hp39 ht0 hvm hzz hH hS => ?_) (fun _ _ _ _ _ hz _ _ _ _ _ => by cases hz.1)
        obtain ⟨ho, hL⟩ := hp39
        cases ho
        refine W.eq (g2 := F0 m 24 ls []) rfl ?_
        refine lv_iinc (v := nI (nc + i + 1 + 1)) (lv' := [(2, .int (nI (nc + i + 1 + 1))), (0, .ref (ad 10 d)), (1, .ref (ad 5 t))]) x.1 x.2.1 dd_pr_addMissing_24 hl (k := 2) rfl (mn_inc _) (by decide) rfl (fun ls hl => ?_)
        refine lv_goto (tgt := 7) x.1 x.2.1 dd_pr_addMissing_27 (by decide) ?_
        exact ihloop35 (i + 1) _ (by omega) hL (by omega) ls H _ (lv_sub hl [1, 2, 0] rfl) hH hS
  exact loop35 _ 0 _ hc5 hL (Nat.lt_succ_self _) ls H _ (lv_sub hl [1, 2, 0] rfl) hH hS
set_option maxRecDepth 100000 in
set_option maxHeartbeats 4000000 in
theorem kk_pr_becomed {l : Launch} {D : va_G} {ar : Nat → ClassId} {base : Nat} {σ : mp_M} {ad : Nat → Nat → Nat} {rg : Nat → Bool} {pl : Nat → Nat} {V M : fV} {t d nc : Nat} (hL : Lay ar ad rg pl V M σ) (ht : t < 102) (hd : dk rg d) (hc : V 34 d = nI nc) (hc2 : nc ≤ 12) : CN l D ar base yy_pr_become prog_6_method_6_code 3 (Option.none : Option Jvm.ClassFile.FieldType) [] 0 0 0 0 [.ref (ad 5 t), .ref (ad 10 d)] σ (fun o σ' _ => o = .returned none ∧ Lay ar ad rg pl (bcm (mu V 52 t (nI nc)) (1000 + t) (100 + d) nc) M σ') := by
  refine mp_in (Nat.le_of_ble_eq_true rfl) ?_
  intro p e R s m below meth c x hfr hlo hce hsl hr hlk hin hex hG hB ls H hH0 hH hS hl
  have hl : lv_has ls 3 [(0, .ref (ad 5 t)), (1, .ref (ad 10 d))] := hl
  have hd5 := dk_le hd
  refine lv_aload_n x.1 x.2.1 dd_pr_become_0 rfl (lv_at hl 0 rfl) ?_
  refine lv_aload_n x.1 x.2.1 dd_pr_become_1 rfl (lv_at hl 1 rfl) ?_
  refine mp_get x hH (la10 hL hd) fg_pr_15 rfl dd_pr_become_2 ?_
  refine mn_top (w := nI nc) (hc) ?_
  refine kp_52 x hH hS hL ht fp_pr_15 dd_pr_become_5 (fun σ hL H locs hH hS => ?_)
  refine lv_iconst (v := nI 0) x.1 x.2.1 dd_pr_become_8 (by decide +kernel) ?_
  refine lv_istore_n (lv' := [(2, .int (nI 0)), (0, .ref (ad 5 t)), (1, .ref (ad 10 d))]) x.1 x.2.1 dd_pr_become_9 rfl hl (by decide) rfl (fun ls hl => ?_)
  have loop40 : ∀ (n41 : Nat) (i : Nat) (σ : mp_M), i ≤ nc → Lay ar ad rg pl (bcm (mu V 52 t (nI nc)) (1000 + t) (100 + d) i) M σ → nc - i < n41 → ∀ (ls : Array Slot) (H : Heap) (locs : List Loc), lv_has ls 3 [(0, .ref (ad 5 t)), (1, .ref (ad 10 d)), (2, .int (nI i))] → HH D base σ H → va_S (mp_A base) s.heap H locs → W p l e R s m [.ref (ad 5 t), .ref (ad 10 d)].toArray below meth c H locs 0 0 (mp_Q below s 0 0 base (mp_P D cl_L base s (fun o σ' _ => o = .returned none ∧ Lay ar ad rg pl (bcm (mu V 52 t (nI nc)) (1000 + t) (100 + d) nc) M σ'))) (F0 m 10 ls []) := by
    intro n41
    induction n41 with
    | zero => intro i σ hi hL hmz; exact absurd hmz (Nat.not_lt_zero _)
    | succ n41 ihloop40 =>
      intro i σ hi hL hmz ls H locs hl hH hS
      refine lv_iload_n x.1 x.2.1 dd_pr_become_10 rfl (lv_at hl 2 rfl) ?_
      refine lv_aload_n x.1 x.2.1 dd_pr_become_11 rfl (lv_at hl 0 rfl) ?_
      refine mp_get x hH (la5 hL ht) fg_pr_15 rfl dd_pr_become_12 ?_
      refine mn_top (w := nI nc) ((bcm_o (by omega)).trans mu_s) ?_
      refine lv_icmp_ge (tgt := 42) x.1 x.2.1 dd_pr_become_15 (by decide) (fun c42 => ?_) (fun c42 => ?_)
      · have c42 : nc ≤ i := (cv_le (a := nc) (b := i) (by omega) (by omega)).mp c42
        obtain rfl : i = nc := by omega
        exact mp_rv x hr hlk (by decide) (by decide) hH hS (fun _ => ⟨rfl, hL⟩) dd_pr_become_42
      · have c42 : ¬ (nc ≤ i) := fun h => c42 ((cv_le (a := nc) (b := i) (by omega) (by omega)).mpr h)
        refine lv_iload_n x.1 x.2.1 dd_pr_become_18 rfl (lv_at hl 2 rfl) ?_
        refine lv_bipush (v := nI 12) x.1 x.2.1 dd_pr_become_19 (by decide +kernel) ?_
        refine lv_icmp_ge (tgt := 42) x.1 x.2.1 dd_pr_become_21 (by decide) (fun c43 => absurd c43 (fun h => absurd ((cv_le (a := 12) (b := i) (by omega) (by omega)).mp h) (by omega))) (fun c43 => ?_)
        refine lv_aload_n x.1 x.2.1 dd_pr_become_24 rfl (lv_at hl 0 rfl) ?_
        refine mp_get x hH (la5 hL ht) fg_pr_9 rfl dd_pr_become_25 ?_
        refine lv_iload_n x.1 x.2.1 dd_pr_become_28 rfl (lv_at hl 2 rfl) ?_
        refine lv_aload_n x.1 x.2.1 dd_pr_become_29 rfl (lv_at hl 1 rfl) ?_
        refine mp_get x hH (la10 hL hd) fg_pr_9 rfl dd_pr_become_30 ?_
        refine lv_iload_n x.1 x.2.1 dd_pr_become_33 rfl (lv_at hl 2 rfl) ?_
        refine krd_ld x hH hL (j := i) hd (by omega) dd_pr_become_34 ?_
        refine mn_top (w := (mu V 52 t (nI nc)) (100 + d) i) (bcm_o (by omega)) ?_
        refine krt_st x hH hS hL (j := i) ht (by omega) dd_pr_become_35 (fun σ hL H locs hH hS => ?_)
        refine lv_iinc (v := nI (i + 1)) (lv' := [(2, .int (nI (i + 1))), (0, .ref (ad 5 t)), (1, .ref (ad 10 d))]) x.1 x.2.1 dd_pr_become_36 hl (k := 2) rfl (mn_inc _) (by decide) rfl (fun ls hl => ?_)
        refine lv_goto (tgt := 10) x.1 x.2.1 dd_pr_become_39 (by decide) ?_
        exact ihloop40 (i + 1) _ (by omega) hL (by omega) ls H _ (lv_sub hl [1, 2, 0] rfl) hH hS
  exact loop40 _ 0 _ (Nat.zero_le _) hL (Nat.lt_succ_self _) ls H _ (lv_sub hl [1, 2, 0] rfl) hH hS
set_option maxRecDepth 100000 in
set_option maxHeartbeats 4000000 in
theorem kk_pr_becomet {l : Launch} {D : va_G} {ar : Nat → ClassId} {base : Nat} {σ : mp_M} {ad : Nat → Nat → Nat} {rg : Nat → Bool} {pl : Nat → Nat} {V M : fV} {t q nc : Nat} (hL : Lay ar ad rg pl V M σ) (ht : t < 102) (hd : q < 102) (hqt : q ≠ t) (hc : V 52 q = nI nc) (hc2 : nc ≤ 12) : CN l D ar base yy_pr_become prog_6_method_6_code 3 (Option.none : Option Jvm.ClassFile.FieldType) [] 0 0 0 0 [.ref (ad 5 t), .ref (ad 5 q)] σ (fun o σ' _ => o = .returned none ∧ Lay ar ad rg pl (bcm (mu V 52 t (nI nc)) (1000 + t) (1000 + q) nc) M σ') := by
  refine mp_in (Nat.le_of_ble_eq_true rfl) ?_
  intro p e R s m below meth c x hfr hlo hce hsl hr hlk hin hex hG hB ls H hH0 hH hS hl
  have hl : lv_has ls 3 [(0, .ref (ad 5 t)), (1, .ref (ad 5 q))] := hl
  refine lv_aload_n x.1 x.2.1 dd_pr_become_0 rfl (lv_at hl 0 rfl) ?_
  refine lv_aload_n x.1 x.2.1 dd_pr_become_1 rfl (lv_at hl 1 rfl) ?_
  refine mp_get x hH (la5 hL hd) fg_pr_15 rfl dd_pr_become_2 ?_
  refine mn_top (w := nI nc) (hc) ?_
  refine kp_52 x hH hS hL ht fp_pr_15 dd_pr_become_5 (fun σ hL H locs hH hS => ?_)
  refine lv_iconst (v := nI 0) x.1 x.2.1 dd_pr_become_8 (by decide +kernel) ?_
  refine lv_istore_n (lv' := [(2, .int (nI 0)), (0, .ref (ad 5 t)), (1, .ref (ad 5 q))]) x.1 x.2.1 dd_pr_become_9 rfl hl (by decide) rfl (fun ls hl => ?_)
  have loop44 : ∀ (n45 : Nat) (i : Nat) (σ : mp_M), i ≤ nc → Lay ar ad rg pl (bcm (mu V 52 t (nI nc)) (1000 + t) (1000 + q) i) M σ → nc - i < n45 → ∀ (ls : Array Slot) (H : Heap) (locs : List Loc), lv_has ls 3 [(0, .ref (ad 5 t)), (1, .ref (ad 5 q)), (2, .int (nI i))] → HH D base σ H → va_S (mp_A base) s.heap H locs → W p l e R s m [.ref (ad 5 t), .ref (ad 5 q)].toArray below meth c H locs 0 0 (mp_Q below s 0 0 base (mp_P D cl_L base s (fun o σ' _ => o = .returned none ∧ Lay ar ad rg pl (bcm (mu V 52 t (nI nc)) (1000 + t) (1000 + q) nc) M σ'))) (F0 m 10 ls []) := by
    intro n45
    induction n45 with
    | zero => intro i σ hi hL hmz; exact absurd hmz (Nat.not_lt_zero _)
    | succ n45 ihloop44 =>
      intro i σ hi hL hmz ls H locs hl hH hS
      refine lv_iload_n x.1 x.2.1 dd_pr_become_10 rfl (lv_at hl 2 rfl) ?_
      refine lv_aload_n x.1 x.2.1 dd_pr_become_11 rfl (lv_at hl 0 rfl) ?_
      refine mp_get x hH (la5 hL ht) fg_pr_15 rfl dd_pr_become_12 ?_
      refine mn_top (w := nI nc) ((bcm_o (by omega)).trans mu_s) ?_
      refine lv_icmp_ge (tgt := 42) x.1 x.2.1 dd_pr_become_15 (by decide) (fun c46 => ?_) (fun c46 => ?_)
      · have c46 : nc ≤ i := (cv_le (a := nc) (b := i) (by omega) (by omega)).mp c46
        obtain rfl : i = nc := by omega
        exact mp_rv x hr hlk (by decide) (by decide) hH hS (fun _ => ⟨rfl, hL⟩) dd_pr_become_42
      · have c46 : ¬ (nc ≤ i) := fun h => c46 ((cv_le (a := nc) (b := i) (by omega) (by omega)).mpr h)
        refine lv_iload_n x.1 x.2.1 dd_pr_become_18 rfl (lv_at hl 2 rfl) ?_
        refine lv_bipush (v := nI 12) x.1 x.2.1 dd_pr_become_19 (by decide +kernel) ?_
        refine lv_icmp_ge (tgt := 42) x.1 x.2.1 dd_pr_become_21 (by decide) (fun c47 => absurd c47 (fun h => absurd ((cv_le (a := 12) (b := i) (by omega) (by omega)).mp h) (by omega))) (fun c47 => ?_)
        refine lv_aload_n x.1 x.2.1 dd_pr_become_24 rfl (lv_at hl 0 rfl) ?_
        refine mp_get x hH (la5 hL ht) fg_pr_9 rfl dd_pr_become_25 ?_
        refine lv_iload_n x.1 x.2.1 dd_pr_become_28 rfl (lv_at hl 2 rfl) ?_
        refine lv_aload_n x.1 x.2.1 dd_pr_become_29 rfl (lv_at hl 1 rfl) ?_
        refine mp_get x hH (la5 hL hd) fg_pr_9 rfl dd_pr_become_30 ?_
        refine lv_iload_n x.1 x.2.1 dd_pr_become_33 rfl (lv_at hl 2 rfl) ?_
        refine krt_ld x hH hL (j := i) hd (by omega) dd_pr_become_34 ?_
        refine mn_top (w := (mu V 52 t (nI nc)) (1000 + q) i) (bcm_o (by omega)) ?_
        refine krt_st x hH hS hL (j := i) ht (by omega) dd_pr_become_35 (fun σ hL H locs hH hS => ?_)
        refine lv_iinc (v := nI (i + 1)) (lv' := [(2, .int (nI (i + 1))), (0, .ref (ad 5 t)), (1, .ref (ad 5 q))]) x.1 x.2.1 dd_pr_become_36 hl (k := 2) rfl (mn_inc _) (by decide) rfl (fun ls hl => ?_)
        refine lv_goto (tgt := 10) x.1 x.2.1 dd_pr_become_39 (by decide) ?_
        exact ihloop44 (i + 1) _ (by omega) hL (by omega) ls H _ (lv_sub hl [1, 2, 0] rfl) hH hS
  exact loop44 _ 0 _ (Nat.zero_le _) hL (Nat.lt_succ_self _) ls H _ (lv_sub hl [1, 2, 0] rfl) hH hS
