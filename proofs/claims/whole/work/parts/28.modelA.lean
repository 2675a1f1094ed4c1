/-! THE MODEL over its flat state. -/
theorem mx_assoc (a b c : Nat) : mx (mx a b) c = mx a (mx b c) := by
  unfold mx
  (repeat' split) <;> omega
def mse (M : fV) (a : Nat) : fV := mu (mu (mu (mu M 11 a (nI 0)) 14 a (nI 0)) 15 a (nI 0)) 16 a (nI 0)
theorem mse_o {M : fV} {a k i : Nat} (h : k < 11 ∨ k = 12 ∨ k = 13 ∨ 16 < k ∨ i ≠ a) : mse M a k i = M k i := by
  unfold mse
  repeat rw [mu_o (by omega)]
def mln (M : fV) (a dc : Nat) (sp dy : Int32) : fV :=
  if M 11 a = nI (dc + 1) then mse (mu (mu (mu (mu (mu M 9 (12 * a + dc) sp) 10 (12 * a + dc) dy) 3 a (nI (dc + 1))) 4 a (nI 0)) 5 a (nI 0)) a
  else mu (mu (mu (mu (mu M 9 (12 * a + dc) sp) 10 (12 * a + dc) dy) 3 a (nI (dc + 1))) 4 a (nI 0)) 5 a (nI 0)
theorem mln_3 {M : fV} {a dc : Nat} {sp dy : Int32} : mln M a dc sp dy 3 a = nI (dc + 1) := by
  unfold mln
  split
  · rw [mse_o (by omega), mu_o (by omega), mu_o (by omega), mu_s]
  · rw [mu_o (by omega), mu_o (by omega), mu_s]
theorem mln_o {M : fV} {a dc k i : Nat} {sp dy : Int32} (h : k < 3 ∨ 16 < k ∨ 6 ≤ k ∧ k ≤ 8 ∨ k = 12 ∨ k = 13) : mln M a dc sp dy k i = M k i := by
  unfold mln
  split
  · rw [mse_o (by omega)]
    repeat rw [mu_o (by omega)]
  · repeat rw [mu_o (by omega)]
def mhd (M : fV) (n fr b0 dc : Nat) (kk to su nu mo sp dy : Int32) : fV :=
  mu (mu (mu (mu (mu (mu (mu (mu (mu (mu (mu M 26 0 (M 26 0 + nI 1)) 21 (34 * n) kk) 21 (34 * n + 1) (nI fr)) 21 (34 * n + 2) to) 21 (34 * n + 3) (nI b0)) 21 (34 * n + 4) su) 21 (34 * n + 5) nu) 21 (34 * n + 6) mo) 21 (34 * n + 7) sp) 21 (34 * n + 8) dy) 21 (34 * n + 9) (nI dc)
theorem mhd_o {M : fV} {n fr b0 dc : Nat} {kk to su nu mo sp dy : Int32} {k i : Nat} (h : k ≠ 21) (h2 : k ≠ 26) : mhd M n fr b0 dc kk to su nu mo sp dy k i = M k i := by
  unfold mhd
  repeat rw [mu_k (by omega)]
def cpl (M : fV) (a q : Nat) : Nat → fV
  | 0 => M
  | i + 1 => mu (mu (cpl M a q i) 21 (q + 10 + 2 * i) (M 9 (12 * a + i))) 21 (q + 11 + 2 * i) (M 10 (12 * a + i))
theorem cpl_o {M : fV} {a q n k i : Nat} (h : k ≠ 21) : cpl M a q n k i = M k i := by
  induction n with
  | zero => rfl
  | succ n ih => exact ((mu_k h).trans (mu_k h)).trans ih
def msn (M : fV) (n a dc fr b0 : Nat) (kk to su nu mo sp dy : Int32) : fV :=
  if n = 100 then mu (mu M 26 0 (M 26 0 + nI 1)) 24 0 (M 24 0 + nI 1) else mu (cpl (mhd M n fr b0 dc kk to su nu mo sp dy) a (34 * n) dc) 22 0 (nI (n + 1))
theorem msn_o {M : fV} {n a dc fr b0 : Nat} {kk to su nu mo sp dy : Int32} {k i : Nat} (h : k < 21 ∨ k = 23 ∨ k = 25 ∨ 26 < k) : msn M n a dc fr b0 kk to su nu mo sp dy k i = M k i := by
  unfold msn
  split
  · rw [mu_k (by omega), mu_k (by omega)]
  · rw [mu_k (by omega), cpl_o (by omega), mhd_o (by omega) (by omega)]
theorem msn_22 {M : fV} {n a dc fr b0 : Nat} {kk to su nu mo sp dy : Int32} (h : M 22 0 = nI n) (hn : n ≤ 100) : msn M n a dc fr b0 kk to su nu mo sp dy 22 0 = nI (nx1 n) := by
  unfold msn nx1
  by_cases h1 : n = 100
  · rw [if_pos h1, if_neg (by omega), mu_k (by omega), mu_k (by omega)]; exact h
  · rw [if_neg h1, if_pos (by omega), mu_s]
theorem msn_26 {M : fV} {n a dc fr b0 : Nat} {kk to su nu mo sp dy : Int32} : msn M n a dc fr b0 kk to su nu mo sp dy 26 0 = M 26 0 + nI 1 := by
  unfold msn
  split
  · rw [mu_k (by omega), mu_s]
  · rw [mu_k (by omega), cpl_o (by omega)]
    unfold mhd
    rw [mu_k (by omega), mu_k (by omega), mu_k (by omega), mu_k (by omega), mu_k (by omega), mu_k (by omega), mu_k (by omega), mu_k (by omega), mu_k (by omega), mu_k (by omega), mu_s]
def mal (M : fV) (n a dc fr b0 : Nat) (kk su nu mo sp dy : Int32) : Nat → fV
  | 0 => M
  | i + 1 => msn (mal M n a dc fr b0 kk su nu mo sp dy i) (m1 (n + i)) a dc fr b0 kk (nI i) su nu mo sp dy
theorem mal_o {M : fV} {n a dc fr b0 : Nat} {kk su nu mo sp dy : Int32} {k i : Nat} (h : k < 21 ∨ k = 23 ∨ k = 25 ∨ 26 < k) (j : Nat) : mal M n a dc fr b0 kk su nu mo sp dy j k i = M k i := by
  induction j with
  | zero => rfl
  | succ j ih => exact (msn_o h).trans ih
theorem mal_22 {M : fV} {n a dc fr b0 : Nat} {kk su nu mo sp dy : Int32} (h : M 22 0 = nI n) (hn : n ≤ 100) (j : Nat) : mal M n a dc fr b0 kk su nu mo sp dy j 22 0 = nI (m1 (n + j)) := by
  induction j with
  | zero => rw [Nat.add_zero, m1_le hn]; exact h
  | succ j ih =>
    have := msn_22 (a := a) (dc := dc) (fr := fr) (b0 := b0) (kk := kk) (to := nI j) (su := su) (nu := nu) (mo := mo) (sp := sp) (dy := dy) ih (m1_100 _)
    rw [nx1_m1] at this
    exact this
def chd (M : fV) (i : Nat) : Nat → fV
  | 0 => M
  | j + 1 => mu (chd M i j) 23 j (M 21 (34 * i + j))
theorem chd_o {M : fV} {i n k j : Nat} (h : k ≠ 23) : chd M i n k j = M k j := by
  induction n with
  | zero => rfl
  | succ n ih => exact (mu_k h).trans ih
def slt (M : fV) (b : Nat) : Nat → fV
  | 0 => M
  | j + 1 => mu (slt M b j) 21 (b + j) (M 21 (b + j + 34))
theorem slt_o {M : fV} {b n k j : Nat} (h : k ≠ 21) : slt M b n k j = M k j := by
  induction n with
  | zero => rfl
  | succ n ih => exact (mu_k h).trans ih
theorem slt_hi {M : fV} {b n j : Nat} (h : b + n ≤ j) : slt M b n 21 j = M 21 j := by
  induction n with
  | zero => rfl
  | succ n ih => exact (mu_i (by omega)).trans (ih (by omega))
def mtk (M : fV) (i n : Nat) : fV := slt (mu (chd M i 34) 22 0 (nI (n - 1))) (34 * i) (34 * (n - 1) - 34 * i)
theorem nrd_eq {ab sp r : Nat} (h1 : 1 ≤ r) (h2 : r = 1 ∨ 25 * (r - 1) + sp ≤ ab) (h3 : ab < 25 * r + sp) : nrd ab sp = r := by
  unfold nrd mx
  (repeat' split) <;> omega
set_option maxRecDepth 100000 in
set_option maxHeartbeats 4000000 in
theorem kk_M_thrown {l : Launch} {D : va_G} {ar : Nat → ClassId} {base : Nat} {σ : mp_M} {ad : Nat → Nat → Nat} {rg : Nat → Bool} {pl : Nat → Nat} {V M : fV}  (hL : Lay ar ad rg pl V M σ)  : CN l D ar base yy_md_thrown prog_9_method_2_code 1 (Option.some Jvm.ClassFile.FieldType.int) [] 0 0 0 0 [.ref (ad 13 0)] σ (fun o σ' _ => o = .returned (some (.int (M 27 0))) ∧ Lay ar ad rg pl V M σ') := by
  refine mp_in (Nat.le_of_ble_eq_true rfl) ?_
  intro p e R s m below meth c x hfr hlo hce hsl hr hlk hin hex hG hB ls H hH0 hH hS hl
  have hl : lv_has ls 1 [(0, .ref (ad 13 0))] := hl
  refine lv_aload_n x.1 x.2.1 dd_md_thrown_0 rfl (lv_at hl 0 rfl) ?_
  refine mp_get x hH (la13 hL) fg_md_80 rfl dd_md_thrown_1 ?_
  exact mp_ri x hr hlk (by decide) (by decide) hH hS (fun _ => ⟨rfl, hL⟩) dd_md_thrown_4
set_option maxRecDepth 100000 in
set_option maxHeartbeats 4000000 in
theorem kk_M_fails0 {l : Launch} {D : va_G} {ar : Nat → ClassId} {base : Nat} {σ : mp_M} {ad : Nat → Nat → Nat} {rg : Nat → Bool} {pl : Nat → Nat} {V M : fV} {k : Int32} (hL : Lay ar ad rg pl V M σ)  : CN l D ar base yy_md_fails prog_9_method_3_code 3 (Option.some Jvm.ClassFile.FieldType.boolean) [] 0 0 0 0 [.ref (ad 13 0), .int (nI 0), .int k] σ (fun o σ' _ => o = .returned (some (.int (nI 0))) ∧ Lay ar ad rg pl V (mu M 27 0 (nI 0)) σ') := by
  refine mp_in (Nat.le_of_ble_eq_true rfl) ?_
  intro p e R s m below meth c x hfr hlo hce hsl hr hlk hin hex hG hB ls H hH0 hH hS hl
  have hl : lv_has ls 3 [(0, .ref (ad 13 0)), (1, .int (nI 0)), (2, .int k)] := hl
  refine lv_aload_n x.1 x.2.1 dd_md_fails_0 rfl (lv_at hl 0 rfl) ?_
  refine lv_iload_n x.1 x.2.1 dd_md_fails_1 rfl (lv_at hl 1 rfl) ?_
  refine lv_if_eq (tgt := 9) x.1 x.2.1 dd_md_fails_2 (by decide) (fun c321 => ?_) (fun c321 => absurd (by decide +kernel) c321)
  refine lv_iconst (v := nI 0) x.1 x.2.1 dd_md_fails_9 (by decide +kernel) ?_
  refine kp_27 x hH hS hL fp_md_80 dd_md_fails_10 (fun σ hL H locs hH hS => ?_)
  refine lv_iload_n x.1 x.2.1 dd_md_fails_13 rfl (lv_at hl 1 rfl) ?_
  exact mp_rz x hr (by decide) hlk (by decide) (by decide) hH hS (fun _ => ⟨rfl, hL⟩) dd_md_fails_14
set_option maxRecDepth 100000 in
set_option maxHeartbeats 4000000 in
theorem kk_M_fails1 {l : Launch} {D : va_G} {ar : Nat → ClassId} {base : Nat} {σ : mp_M} {ad : Nat → Nat → Nat} {rg : Nat → Bool} {pl : Nat → Nat} {V M : fV} {k : Int32} (hL : Lay ar ad rg pl V M σ)  : CN l D ar base yy_md_fails prog_9_method_3_code 3 (Option.some Jvm.ClassFile.FieldType.boolean) [] 0 0 0 0 [.ref (ad 13 0), .int (nI 1), .int k] σ (fun o σ' _ => o = .returned (some (.int (nI 1))) ∧ Lay ar ad rg pl V (mu M 27 0 k) σ') := by
  refine mp_in (Nat.le_of_ble_eq_true rfl) ?_
  intro p e R s m below meth c x hfr hlo hce hsl hr hlk hin hex hG hB ls H hH0 hH hS hl
  have hl : lv_has ls 3 [(0, .ref (ad 13 0)), (1, .int (nI 1)), (2, .int k)] := hl
  refine lv_aload_n x.1 x.2.1 dd_md_fails_0 rfl (lv_at hl 0 rfl) ?_
  refine lv_iload_n x.1 x.2.1 dd_md_fails_1 rfl (lv_at hl 1 rfl) ?_
  refine lv_if_eq (tgt := 9) x.1 x.2.1 dd_md_fails_2 (by decide) (fun c322 => absurd c322 (by decide +kernel)) (fun c322 => ?_)
  refine lv_iload_n x.1 x.2.1 dd_md_fails_5 rfl (lv_at hl 2 rfl) ?_
  refine lv_goto (tgt := 10) x.1 x.2.1 dd_md_fails_6 (by decide) ?_
  refine kp_27 x hH hS hL fp_md_80 dd_md_fails_10 (fun σ hL H locs hH hS => ?_)
  refine lv_iload_n x.1 x.2.1 dd_md_fails_13 rfl (lv_at hl 1 rfl) ?_
  exact mp_rz x hr (by decide) hlk (by decide) (by decide) hH hS (fun _ => ⟨rfl, hL⟩) dd_md_fails_14
set_option maxRecDepth 100000 in
set_option maxHeartbeats 4000000 in
theorem kk_M_within_ok {l : Launch} {D : va_G} {ar : Nat → ClassId} {base : Nat} {σ : mp_M} {k a : Int32} (hQ : ¬ (k < 0 ∨ a ≤ k)) : CN l D ar base yy_md_within prog_9_method_4_code 2 (Option.some Jvm.ClassFile.FieldType.boolean) [] 0 0 0 0 [.int k, .int a] σ (fun o σ' _ => o = .returned (some (.int (nI 1))) ∧ σ' = σ) := by
  refine mp_in (Nat.le_of_ble_eq_true rfl) ?_
  intro p e R s m below meth c x hfr hlo hce hsl hr hlk hin hex hG hB ls H hH0 hH hS hl
  have hl : lv_has ls 2 [(0, .int k), (1, .int a)] := hl
  refine lv_iload_n x.1 x.2.1 dd_md_within_0 rfl (lv_at hl 0 rfl) ?_
  refine lv_if_lt (tgt := 13) x.1 x.2.1 dd_md_within_1 (by decide) (fun c323 => ?_) (fun c323 => ?_)
  · refine lv_iconst (v := nI 0) x.1 x.2.1 dd_md_within_13 (by decide +kernel) ?_
    exact absurd (Or.inl c323) hQ
  · refine lv_iload_n x.1 x.2.1 dd_md_within_4 rfl (lv_at hl 0 rfl) ?_
    refine lv_iload_n x.1 x.2.1 dd_md_within_5 rfl (lv_at hl 1 rfl) ?_
    refine lv_icmp_ge (tgt := 13) x.1 x.2.1 dd_md_within_6 (by decide) (fun c324 => ?_) (fun c324 => ?_)
    · refine lv_iconst (v := nI 0) x.1 x.2.1 dd_md_within_13 (by decide +kernel) ?_
      exact absurd (Or.inr c324) hQ
    · refine lv_iconst (v := nI 1) x.1 x.2.1 dd_md_within_9 (by decide +kernel) ?_
      refine lv_goto (tgt := 14) x.1 x.2.1 dd_md_within_10 (by decide) ?_
      exact mp_rz x hr (by decide) hlk (by decide) (by decide) hH hS (fun _ => ⟨rfl, rfl⟩) dd_md_within_14
set_option maxRecDepth 100000 in
set_option maxHeartbeats 4000000 in
theorem kk_M_isShop_ok {l : Launch} {D : va_G} {ar : Nat → ClassId} {base : Nat} {σ : mp_M} {k : Int32} (hQ : ¬ (k < 0 ∨ nI 25 ≤ k)) : CN l D ar base yy_md_isShop prog_9_method_5_code 1 (Option.some Jvm.ClassFile.FieldType.boolean) [] 1 13 0 0 [.int k] σ (fun o σ' _ => o = .returned (some (.int (nI 1))) ∧ σ' = σ) := by
  refine mp_in (Nat.le_of_ble_eq_true rfl) ?_
  intro p e R s m below meth c x hfr hlo hce hsl hr hlk hin hex hG hB ls H hH0 hH hS hl
  have hl : lv_has ls 1 [(0, .int k)] := hl
  refine lv_iload_n x.1 x.2.1 dd_md_isShop_0 rfl (lv_at hl 0 rfl) ?_
  refine lv_bipush (v := nI 25) x.1 x.2.1 dd_md_isShop_1 (by decide +kernel) ?_
  refine mp_call x (wt_mv base) hG hB hl.1 (mp_invS (av := [.int k, .int (nI 25)]) x mn_md_within mc_md_within (Or.inl ww_811) ww_812 ww_60 rfl dd_md_isShop_3) (kk_M_within_ok hQ) (Nat.le_trans (Nat.le_of_ble_eq_true rfl) hfr) (Nat.le_trans (Nat.le_of_ble_eq_true rfl) hlo) (Nat.le_trans (Nat.le_of_ble_eq_true rfl) hce) (Nat.le_trans (Nat.le_of_ble_eq_true rfl) hsl) hH hS (fun v σa t0 H locs hp325 ht0 hvm hzz hH hS => ?_) (fun _ _ _ _ _ hz _ _ _ _ _ => by cases hz.1)
  obtain ⟨ho, hσ⟩ := hp325
  cases ho
  rw [hσ] at hH
  refine W.eq (g2 := F0 m 6 ls [.int (nI 1)]) rfl ?_
  exact mp_rz x hr (by decide) hlk (by decide) (by decide) hH hS (fun _ => ⟨rfl, rfl⟩) dd_md_isShop_6
set_option maxRecDepth 100000 in
set_option maxHeartbeats 4000000 in
theorem kk_M_isPrescription_ok {l : Launch} {D : va_G} {ar : Nat → ClassId} {base : Nat} {σ : mp_M} {k : Int32} (hQ : ¬ (k < 0 ∨ nI 20 ≤ k)) : CN l D ar base yy_md_isPrescription prog_9_method_6_code 1 (Option.some Jvm.ClassFile.FieldType.boolean) [] 1 13 0 0 [.int k] σ (fun o σ' _ => o = .returned (some (.int (nI 1))) ∧ σ' = σ) := by
  refine mp_in (Nat.le_of_ble_eq_true rfl) ?_
  intro p e R s m below meth c x hfr hlo hce hsl hr hlk hin hex hG hB ls H hH0 hH hS hl
  have hl : lv_has ls 1 [(0, .int k)] := hl
  refine lv_iload_n x.1 x.2.1 dd_md_isPrescription_0 rfl (lv_at hl 0 rfl) ?_
  refine lv_bipush (v := nI 20) x.1 x.2.1 dd_md_isPrescription_1 (by decide +kernel) ?_
  refine mp_call x (wt_mv base) hG hB hl.1 (mp_invS (av := [.int k, .int (nI 20)]) x mn_md_within mc_md_within (Or.inl ww_811) ww_812 ww_60 rfl dd_md_isPrescription_3) (kk_M_within_ok hQ) (Nat.le_trans (Nat.le_of_ble_eq_true rfl) hfr) (Nat.le_trans (Nat.le_of_ble_eq_true rfl) hlo) (Nat.le_trans (Nat.le_of_ble_eq_true rfl) hce) (Nat.le_trans (Nat.le_of_ble_eq_true rfl) hsl) hH hS (fun v σa t0 H locs hp326 ht0 hvm hzz hH hS => ?_) (fun _ _ _ _ _ hz _ _ _ _ _ => by cases hz.1)
  obtain ⟨ho, hσ⟩ := hp326
  cases ho
  rw [hσ] at hH
  refine W.eq (g2 := F0 m 6 ls [.int (nI 1)]) rfl ?_
  exact mp_rz x hr (by decide) hlk (by decide) (by decide) hH hS (fun _ => ⟨rfl, rfl⟩) dd_md_isPrescription_6
set_option maxRecDepth 100000 in
set_option maxHeartbeats 4000000 in
theorem kk_M_within_no {l : Launch} {D : va_G} {ar : Nat → ClassId} {base : Nat} {σ : mp_M} {k a : Int32} (hQ : k < 0 ∨ a ≤ k) : CN l D ar base yy_md_within prog_9_method_4_code 2 (Option.some Jvm.ClassFile.FieldType.boolean) [] 0 0 0 0 [.int k, .int a] σ (fun o σ' _ => o = .returned (some (.int (nI 0))) ∧ σ' = σ) := by
  refine mp_in (Nat.le_of_ble_eq_true rfl) ?_
  intro p e R s m below meth c x hfr hlo hce hsl hr hlk hin hex hG hB ls H hH0 hH hS hl
  have hl : lv_has ls 2 [(0, .int k), (1, .int a)] := hl
  refine lv_iload_n x.1 x.2.1 dd_md_within_0 rfl (lv_at hl 0 rfl) ?_
  refine lv_if_lt (tgt := 13) x.1 x.2.1 dd_md_within_1 (by decide) (fun c327 => ?_) (fun c327 => ?_)
  · refine lv_iconst (v := nI 0) x.1 x.2.1 dd_md_within_13 (by decide +kernel) ?_
    exact mp_rz x hr (by decide) hlk (by decide) (by decide) hH hS (fun _ => ⟨rfl, rfl⟩) dd_md_within_14
  · refine lv_iload_n x.1 x.2.1 dd_md_within_4 rfl (lv_at hl 0 rfl) ?_
    refine lv_iload_n x.1 x.2.1 dd_md_within_5 rfl (lv_at hl 1 rfl) ?_
    refine lv_icmp_ge (tgt := 13) x.1 x.2.1 dd_md_within_6 (by decide) (fun c328 => ?_) (fun c328 => ?_)
    · refine lv_iconst (v := nI 0) x.1 x.2.1 dd_md_within_13 (by decide +kernel) ?_
      exact mp_rz x hr (by decide) hlk (by decide) (by decide) hH hS (fun _ => ⟨rfl, rfl⟩) dd_md_within_14
    · refine lv_iconst (v := nI 1) x.1 x.2.1 dd_md_within_9 (by decide +kernel) ?_
      refine lv_goto (tgt := 14) x.1 x.2.1 dd_md_within_10 (by decide) ?_
      exact absurd hQ (fun z => z.elim c327 c328)
set_option maxRecDepth 100000 in
set_option maxHeartbeats 4000000 in
theorem kk_M_isShop_no {l : Launch} {D : va_G} {ar : Nat → ClassId} {base : Nat} {σ : mp_M} {k : Int32} (hQ : k < 0 ∨ nI 25 ≤ k) : CN l D ar base yy_md_isShop prog_9_method_5_code 1 (Option.some Jvm.ClassFile.FieldType.boolean) [] 1 13 0 0 [.int k] σ (fun o σ' _ => o = .returned (some (.int (nI 0))) ∧ σ' = σ) := by
  refine mp_in (Nat.le_of_ble_eq_true rfl) ?_
  intro p e R s m below meth c x hfr hlo hce hsl hr hlk hin hex hG hB ls H hH0 hH hS hl
  have hl : lv_has ls 1 [(0, .int k)] := hl
  refine lv_iload_n x.1 x.2.1 dd_md_isShop_0 rfl (lv_at hl 0 rfl) ?_
  refine lv_bipush (v := nI 25) x.1 x.2.1 dd_md_isShop_1 (by decide +kernel) ?_
  refine mp_call x (wt_mv base) hG hB hl.1 (mp_invS (av := [.int k, .int (nI 25)]) x mn_md_within mc_md_within (Or.inl ww_811) ww_812 ww_60 rfl dd_md_isShop_3) (kk_M_within_no hQ) (Nat.le_trans (Nat.le_of_ble_eq_true rfl) hfr) (Nat.le_trans (Nat.le_of_ble_eq_true rfl) hlo) (Nat.le_trans (Nat.le_of_ble_eq_true rfl) hce) (Nat.le_trans (Nat.le_of_ble_eq_true rfl) hsl) hH hS (fun v σa t0 H locs hp329 ht0 hvm hzz hH hS => ?_) (fun _ _ _ _ _ hz _ _ _ _ _ => by cases hz.1)
  obtain ⟨ho, hσ⟩ := hp329
  cases ho
  rw [hσ] at hH
  refine W.eq (g2 := F0 m 6 ls [.int (nI 0)]) rfl ?_
  exact mp_rz x hr (by decide) hlk (by decide) (by decide) hH hS (fun _ => ⟨rfl, rfl⟩) dd_md_isShop_6
set_option maxRecDepth 100000 in
set_option maxHeartbeats 4000000 in
theorem kk_M_isPrescription_no {l : Launch} {D : va_G} {ar : Nat → ClassId} {base : Nat} {σ : mp_M} {k : Int32} (hQ : k < 0 ∨ nI 20 ≤ k) : CN l D ar base yy_md_isPrescription prog_9_method_6_code 1 (Option.some Jvm.ClassFile.FieldType.boolean) [] 1 13 0 0 [.int k] σ (fun o σ' _ => o = .returned (some (.int (nI 0))) ∧ σ' = σ) := by
  refine mp_in (Nat.le_of_ble_eq_true rfl) ?_
  intro p e R s m below meth c x hfr hlo hce hsl hr hlk hin hex hG hB ls H hH0 hH hS hl
  have hl : lv_has ls 1 [(0, .int k)] := hl
  refine lv_iload_n x.1 x.2.1 dd_md_isPrescription_0 rfl (lv_at hl 0 rfl) ?_
  refine lv_bipush (v := nI 20) x.1 x.2.1 dd_md_isPrescription_1 (by decide +kernel) ?_
  refine mp_call x (wt_mv base) hG hB hl.1 (mp_invS (av := [.int k, .int (nI 20)]) x mn_md_within mc_md_within (Or.inl ww_811) ww_812 ww_60 rfl dd_md_isPrescription_3) (kk_M_within_no hQ) (Nat.le_trans (Nat.le_of_ble_eq_true rfl) hfr) (Nat.le_trans (Nat.le_of_ble_eq_true rfl) hlo) (Nat.le_trans (Nat.le_of_ble_eq_true rfl) hce) (Nat.le_trans (Nat.le_of_ble_eq_true rfl) hsl) hH hS (fun v σa t0 H locs hp330 ht0 hvm hzz hH hS => ?_) (fun _ _ _ _ _ hz _ _ _ _ _ => by cases hz.1)
  obtain ⟨ho, hσ⟩ := hp330
  cases ho
  rw [hσ] at hH
  refine W.eq (g2 := F0 m 6 ls [.int (nI 0)]) rfl ?_
  exact mp_rz x hr (by decide) hlk (by decide) (by decide) hH hS (fun _ => ⟨rfl, rfl⟩) dd_md_isPrescription_6
set_option maxRecDepth 100000 in
set_option maxHeartbeats 4000000 in
theorem kk_M_at {l : Launch} {D : va_G} {ar : Nat → ClassId} {base : Nat} {σ : mp_M} {a0 b0 : Nat}  : CN l D ar base yy_md_at prog_9_method_7_code 2 (Option.some Jvm.ClassFile.FieldType.int) [] 0 0 0 0 [.int (nI a0), .int (nI b0)] σ (fun o σ' _ => o = .returned (some (.int (nI (20 * a0 + b0)))) ∧ σ' = σ) := by
  refine mp_in (Nat.le_of_ble_eq_true rfl) ?_
  intro p e R s m below meth c x hfr hlo hce hsl hr hlk hin hex hG hB ls H hH0 hH hS hl
  have hl : lv_has ls 2 [(0, .int (nI a0)), (1, .int (nI b0))] := hl
  refine lv_bipush (v := nI 20) x.1 x.2.1 dd_md_at_0 (by decide +kernel) ?_
  refine lv_iload_n x.1 x.2.1 dd_md_at_2 rfl (lv_at hl 0 rfl) ?_
  refine lv_imul x.1 x.2.1 dd_md_at_3 ?_
  refine mn_top (w := nI (20 * a0)) (pk_mul _ _) ?_
  refine lv_iload_n x.1 x.2.1 dd_md_at_4 rfl (lv_at hl 1 rfl) ?_
  refine lv_iadd x.1 x.2.1 dd_md_at_5 ?_
  refine mn_top (w := nI (20 * a0 + b0)) (nI_add _ _) ?_
  exact mp_ri x hr hlk (by decide) (by decide) hH hS (fun _ => ⟨rfl, rfl⟩) dd_md_at_6
set_option maxRecDepth 100000 in
set_option maxHeartbeats 4000000 in
theorem kk_M_end {l : Launch} {D : va_G} {ar : Nat → ClassId} {base : Nat} {σ : mp_M} {ad : Nat → Nat → Nat} {rg : Nat → Bool} {pl : Nat → Nat} {V M : fV} {a : Nat} (hL : Lay ar ad rg pl V M σ) (ha : a < 500) : CN l D ar base yy_md_endAsking prog_9_method_11_code 2 (Option.none : Option Jvm.ClassFile.FieldType) [] 0 0 0 0 [.ref (ad 13 0), .int (nI a)] σ (fun o σ' _ => o = .returned none ∧ Lay ar ad rg pl V (mse M a) σ') := by
  refine mp_in (Nat.le_of_ble_eq_true rfl) ?_
  intro p e R s m below meth c x hfr hlo hce hsl hr hlk hin hex hG hB ls H hH0 hH hS hl
  have hl : lv_has ls 2 [(0, .ref (ad 13 0)), (1, .int (nI a))] := hl
  refine lv_aload_n x.1 x.2.1 dd_md_endAsking_0 rfl (lv_at hl 0 rfl) ?_
  refine mp_get x hH (la13 hL) fg_md_44 rfl dd_md_endAsking_1 ?_
  refine lv_iload_n x.1 x.2.1 dd_md_endAsking_4 rfl (lv_at hl 1 rfl) ?_
  refine lv_iconst (v := nI 0) x.1 x.2.1 dd_md_endAsking_5 (by decide +kernel) ?_
  refine ka_st x hH hS hL 11 (j := a) (by decide) (by decide) (show a < 500 from (by omega)) (by decide) dd_md_endAsking_6 (fun σ hL H locs hH hS => ?_)
  refine lv_aload_n x.1 x.2.1 dd_md_endAsking_7 rfl (lv_at hl 0 rfl) ?_
  refine mp_get x hH (la13 hL) fg_md_53 rfl dd_md_endAsking_8 ?_
  refine lv_iload_n x.1 x.2.1 dd_md_endAsking_11 rfl (lv_at hl 1 rfl) ?_
  refine lv_iconst (v := nI 0) x.1 x.2.1 dd_md_endAsking_12 (by decide +kernel) ?_
  refine ka_st x hH hS hL 14 (j := a) (by decide) (by decide) (show a < 500 from (by omega)) (by decide) dd_md_endAsking_13 (fun σ hL H locs hH hS => ?_)
  refine lv_aload_n x.1 x.2.1 dd_md_endAsking_14 rfl (lv_at hl 0 rfl) ?_
  refine mp_get x hH (la13 hL) fg_md_56 rfl dd_md_endAsking_15 ?_
  refine lv_iload_n x.1 x.2.1 dd_md_endAsking_18 rfl (lv_at hl 1 rfl) ?_
  refine lv_iconst (v := nI 0) x.1 x.2.1 dd_md_endAsking_19 (by decide +kernel) ?_
  refine ka_st x hH hS hL 15 (j := a) (by decide) (by decide) (show a < 500 from (by omega)) (by decide) dd_md_endAsking_20 (fun σ hL H locs hH hS => ?_)
  refine lv_aload_n x.1 x.2.1 dd_md_endAsking_21 rfl (lv_at hl 0 rfl) ?_
  refine mp_get x hH (la13 hL) fg_md_59 rfl dd_md_endAsking_22 ?_
  refine lv_iload_n x.1 x.2.1 dd_md_endAsking_25 rfl (lv_at hl 1 rfl) ?_
  refine lv_iconst (v := nI 0) x.1 x.2.1 dd_md_endAsking_26 (by decide +kernel) ?_
  refine ka_st x hH hS hL 16 (j := a) (by decide) (by decide) (show a < 500 from (by omega)) (by decide) dd_md_endAsking_27 (fun σ hL H locs hH hS => ?_)
  exact mp_rv x hr hlk (by decide) (by decide) hH hS (fun _ => ⟨rfl, hL⟩) dd_md_endAsking_28
set_option maxRecDepth 100000 in
set_option maxHeartbeats 4000000 in
theorem kk_M_learn {l : Launch} {D : va_G} {ar : Nat → ClassId} {base : Nat} {σ : mp_M} {ad : Nat → Nat → Nat} {rg : Nat → Bool} {pl : Nat → Nat} {V M : fV} {a dc : Nat} {sp dy : Int32} (hL : Lay ar ad rg pl V M σ) (ha : a < 500) (hdc : M 3 a = nI dc) (hdl : dc < 12) : CN l D ar base yy_md_learn prog_9_method_12_code 4 (Option.none : Option Jvm.ClassFile.FieldType) [] 1 13 0 0 [.ref (ad 13 0), .int (nI a), .int sp, .int dy] σ (fun o σ' _ => o = .returned none ∧ Lay ar ad rg pl V (mln M a dc sp dy) σ') := by
  refine mp_in (Nat.le_of_ble_eq_true rfl) ?_
  intro p e R s m below meth c x hfr hlo hce hsl hr hlk hin hex hG hB ls H hH0 hH hS hl
  have hl : lv_has ls 4 [(0, .ref (ad 13 0)), (1, .int (nI a)), (2, .int sp), (3, .int dy)] := hl
  refine lv_aload_n x.1 x.2.1 dd_md_learn_0 rfl (lv_at hl 0 rfl) ?_
  refine mp_get x hH (la13 hL) fg_md_38 rfl dd_md_learn_1 ?_
  refine lv_bipush (v := nI 12) x.1 x.2.1 dd_md_learn_4 (by decide +kernel) ?_
  refine lv_iload_n x.1 x.2.1 dd_md_learn_6 rfl (lv_at hl 1 rfl) ?_
  refine lv_imul x.1 x.2.1 dd_md_learn_7 ?_
  refine mn_top (w := nI (12 * a)) (pk_mul _ _) ?_
  refine lv_aload_n x.1 x.2.1 dd_md_learn_8 rfl (lv_at hl 0 rfl) ?_
  refine mp_get x hH (la13 hL) fg_md_20 rfl dd_md_learn_9 ?_
  refine lv_iload_n x.1 x.2.1 dd_md_learn_12 rfl (lv_at hl 1 rfl) ?_
  refine ka_ld x hH hL 3 (j := a) (by decide) (by decide) (show a < 500 from (by omega)) (by decide) dd_md_learn_13 ?_
  refine mn_top (w := nI dc) (hdc) ?_
  refine lv_iadd x.1 x.2.1 dd_md_learn_14 ?_
  refine mn_top (w := nI (12 * a + dc)) (nI_add _ _) ?_
  refine lv_iload_n x.1 x.2.1 dd_md_learn_15 rfl (lv_at hl 2 rfl) ?_
  refine ka_st x hH hS hL 9 (j := 12 * a + dc) (by decide) (by decide) (show 12 * a + dc < 6000 from (by omega)) (by decide) dd_md_learn_16 (fun σ hL H locs hH hS => ?_)
  refine lv_aload_n x.1 x.2.1 dd_md_learn_17 rfl (lv_at hl 0 rfl) ?_
  refine mp_get x hH (la13 hL) fg_md_41 rfl dd_md_learn_18 ?_
  refine lv_bipush (v := nI 12) x.1 x.2.1 dd_md_learn_21 (by decide +kernel) ?_
  refine lv_iload_n x.1 x.2.1 dd_md_learn_23 rfl (lv_at hl 1 rfl) ?_
  refine lv_imul x.1 x.2.1 dd_md_learn_24 ?_
  refine mn_top (w := nI (12 * a)) (pk_mul _ _) ?_
  refine lv_aload_n x.1 x.2.1 dd_md_learn_25 rfl (lv_at hl 0 rfl) ?_
  refine mp_get x hH (la13 hL) fg_md_20 rfl dd_md_learn_26 ?_
  refine lv_iload_n x.1 x.2.1 dd_md_learn_29 rfl (lv_at hl 1 rfl) ?_
  refine ka_ld x hH hL 3 (j := a) (by decide) (by decide) (show a < 500 from (by omega)) (by decide) dd_md_learn_30 ?_
  refine mn_top (w := nI dc) ((mu_k (by decide)).trans (hdc)) ?_
  refine lv_iadd x.1 x.2.1 dd_md_learn_31 ?_
  refine mn_top (w := nI (12 * a + dc)) (nI_add _ _) ?_
  refine lv_iload_n x.1 x.2.1 dd_md_learn_32 rfl (lv_at hl 3 rfl) ?_
  refine ka_st x hH hS hL 10 (j := 12 * a + dc) (by decide) (by decide) (show 12 * a + dc < 6000 from (by omega)) (by decide) dd_md_learn_33 (fun σ hL H locs hH hS => ?_)
  refine lv_aload_n x.1 x.2.1 dd_md_learn_34 rfl (lv_at hl 0 rfl) ?_
  refine mp_get x hH (la13 hL) fg_md_20 rfl dd_md_learn_35 ?_
  refine lv_iload_n x.1 x.2.1 dd_md_learn_38 rfl (lv_at hl 1 rfl) ?_
  refine lv_dup2_11 x.1 x.2.1 dd_md_learn_39 rfl rfl ?_
  refine ka_ld x hH hL 3 (j := a) (by decide) (by decide) (show a < 500 from (by omega)) (by decide) dd_md_learn_40 ?_
  refine mn_top (w := nI dc) ((mu_k (by decide)).trans ((mu_k (by decide)).trans (hdc))) ?_
  refine lv_iconst (v := nI 1) x.1 x.2.1 dd_md_learn_41 (by decide +kernel) ?_
  refine lv_iadd x.1 x.2.1 dd_md_learn_42 ?_
  refine mn_top (w := nI (dc + 1)) (nI_add _ _) ?_
  refine ka_st x hH hS hL 3 (j := a) (by decide) (by decide) (show a < 500 from (by omega)) (by decide) dd_md_learn_43 (fun σ hL H locs hH hS => ?_)
  refine lv_aload_n x.1 x.2.1 dd_md_learn_44 rfl (lv_at hl 0 rfl) ?_
  refine mp_get x hH (la13 hL) fg_md_23 rfl dd_md_learn_45 ?_
  refine lv_iload_n x.1 x.2.1 dd_md_learn_48 rfl (lv_at hl 1 rfl) ?_
  refine lv_iconst (v := nI 0) x.1 x.2.1 dd_md_learn_49 (by decide +kernel) ?_
  refine ka_st x hH hS hL 4 (j := a) (by decide) (by decide) (show a < 500 from (by omega)) (by decide) dd_md_learn_50 (fun σ hL H locs hH hS => ?_)
  refine lv_aload_n x.1 x.2.1 dd_md_learn_51 rfl (lv_at hl 0 rfl) ?_
  refine mp_get x hH (la13 hL) fg_md_26 rfl dd_md_learn_52 ?_
  refine lv_iload_n x.1 x.2.1 dd_md_learn_55 rfl (lv_at hl 1 rfl) ?_
  refine lv_iconst (v := nI 0) x.1 x.2.1 dd_md_learn_56 (by decide +kernel) ?_
  refine ka_st x hH hS hL 5 (j := a) (by decide) (by decide) (show a < 500 from (by omega)) (by decide) dd_md_learn_57 (fun σ hL H locs hH hS => ?_)
  refine lv_aload_n x.1 x.2.1 dd_md_learn_58 rfl (lv_at hl 0 rfl) ?_
  refine mp_get x hH (la13 hL) fg_md_44 rfl dd_md_learn_59 ?_
  refine lv_iload_n x.1 x.2.1 dd_md_learn_62 rfl (lv_at hl 1 rfl) ?_
  refine ka_ld x hH hL 11 (j := a) (by decide) (by decide) (show a < 500 from (by omega)) (by decide) dd_md_learn_63 ?_
  refine mn_top (w := M 11 a) ((mu_k (by decide)).trans ((mu_k (by decide)).trans ((mu_k (by decide)).trans ((mu_k (by decide)).trans (mu_k (by decide)))))) ?_
  refine lv_aload_n x.1 x.2.1 dd_md_learn_64 rfl (lv_at hl 0 rfl) ?_
  refine mp_get x hH (la13 hL) fg_md_20 rfl dd_md_learn_65 ?_
  refine lv_iload_n x.1 x.2.1 dd_md_learn_68 rfl (lv_at hl 1 rfl) ?_
  refine ka_ld x hH hL 3 (j := a) (by decide) (by decide) (show a < 500 from (by omega)) (by decide) dd_md_learn_69 ?_
  refine mn_top (w := nI (dc + 1)) ((mu_k (by decide)).trans ((mu_k (by decide)).trans (mu_s))) ?_
  refine lv_icmp_ne (tgt := 78) x.1 x.2.1 dd_md_learn_70 (by decide) (fun c331 => ?_) (fun c331 => ?_)
  · exact mp_rv x hr hlk (by decide) (by decide) hH hS (fun _ => ⟨rfl, by unfold mln; rw [if_neg c331]; exact hL⟩) dd_md_learn_78
  · refine lv_aload_n x.1 x.2.1 dd_md_learn_73 rfl (lv_at hl 0 rfl) ?_
    refine lv_iload_n x.1 x.2.1 dd_md_learn_74 rfl (lv_at hl 1 rfl) ?_
    refine mp_call x (wt_mv base) hG hB hl.1 (mp_invV (av := [.int (nI a)]) x hH (la13 hL) rfl rfl mn_md_endAsking mc_md_endAsking (Or.inl ww_829) ww_831 ww_42 rfl dd_md_learn_75) (kk_M_end (a := a) hL (by omega)) (Nat.le_trans (Nat.le_of_ble_eq_true rfl) hfr) (Nat.le_trans (Nat.le_of_ble_eq_true rfl) hlo) (Nat.le_trans (Nat.le_of_ble_eq_true rfl) hce) (Nat.le_trans (Nat.le_of_ble_eq_true rfl) hsl) hH hS (fun v σa t0 H locs hp332 ht0 hvm hzz hH hS => ?_) (fun _ _ _ _ _ hz _ _ _ _ _ => by cases hz.1)
    obtain ⟨ho, hL⟩ := hp332
    cases ho
    refine W.eq (g2 := F0 m 78 ls []) rfl ?_
    exact mp_rv x hr hlk (by decide) (by decide) hH hS (fun _ => ⟨rfl, by unfold mln; rw [if_pos c331]; exact hL⟩) dd_md_learn_78
set_option maxRecDepth 100000 in
set_option maxHeartbeats 4000000 in
theorem kk_M_send {l : Launch} {D : va_G} {ar : Nat → ClassId} {base : Nat} {σ : mp_M} {ad : Nat → Nat → Nat} {rg : Nat → Bool} {pl : Nat → Nat} {V M : fV} {a0 b0 a n dc : Nat} {kk to su nu mo sp dy : Int32} (hL : Lay ar ad rg pl V M σ) (hA : 20 * a0 + b0 = a) (ha : a0 < 25) (hb : b0 < 20) (hn : M 22 0 = nI n) (hn2 : n ≤ 100) (hdc : M 3 a = nI dc) (hdl : dc ≤ 12) : CN l D ar base yy_md_send prog_9_method_9_code 13 (Option.none : Option Jvm.ClassFile.FieldType) [] 1 13 0 0 [.ref (ad 13 0), .int kk, .int (nI a0), .int to, .int (nI b0), .int su, .int nu, .int mo, .int sp, .int dy] σ (fun o σ' _ => o = .returned none ∧ Lay ar ad rg pl V (msn M n a dc a0 b0 kk to su nu mo sp dy) σ') := by
  refine mp_in (Nat.le_of_ble_eq_true rfl) ?_
  intro p e R s m below meth c x hfr hlo hce hsl hr hlk hin hex hG hB ls H hH0 hH hS hl
  have hl : lv_has ls 13 [(0, .ref (ad 13 0)), (1, .int kk), (2, .int (nI a0)), (3, .int to), (4, .int (nI b0)), (5, .int su), (6, .int nu), (7, .int mo), (8, .int sp), (9, .int dy)] := hl
  refine lv_aload_n x.1 x.2.1 dd_md_send_0 rfl (lv_at hl 0 rfl) ?_
  refine lv_dup x.1 x.2.1 dd_md_send_1 rfl ?_
  refine mp_get x hH (la13 hL) fg_md_96 rfl dd_md_send_2 ?_
  refine lv_iconst (v := nI 1) x.1 x.2.1 dd_md_send_5 (by decide +kernel) ?_
  refine lv_iadd x.1 x.2.1 dd_md_send_6 ?_
  refine kp_26 x hH hS hL fp_md_96 dd_md_send_7 (fun σ hL H locs hH hS => ?_)
  refine lv_aload_n x.1 x.2.1 dd_md_send_10 rfl (lv_at hl 0 rfl) ?_
  refine mp_get x hH (la13 hL) fg_md_99 rfl dd_md_send_11 ?_
  refine mn_top (w := nI n) ((mu_k (by decide)).trans (hn)) ?_
  refine lv_bipush (v := nI 100) x.1 x.2.1 dd_md_send_14 (by decide +kernel) ?_
  refine lv_icmp_ne (tgt := 30) x.1 x.2.1 dd_md_send_16 (by decide) (fun c333 => ?_) (fun c333 => ?_)
  · have c333 : ¬ (n = 100) := fun h => c333 ((cv_eq (a := n) (b := 100) (by omega) (by omega)).mpr h)
    refine lv_bipush (v := nI 34) x.1 x.2.1 dd_md_send_30 (by decide +kernel) ?_
    refine lv_aload_n x.1 x.2.1 dd_md_send_32 rfl (lv_at hl 0 rfl) ?_
    refine mp_get x hH (la13 hL) fg_md_99 rfl dd_md_send_33 ?_
    refine mn_top (w := nI n) ((mu_k (by decide)).trans (hn)) ?_
    refine lv_imul x.1 x.2.1 dd_md_send_36 ?_
    refine mn_top (w := nI (34 * n)) (pk_mul _ _) ?_
    refine lv_istore (lv' := [(10, .int (nI (34 * n))), (0, .ref (ad 13 0)), (1, .int kk), (2, .int (nI a0)), (3, .int to), (4, .int (nI b0)), (5, .int su), (6, .int nu), (7, .int mo), (8, .int sp), (9, .int dy)]) x.1 x.2.1 dd_md_send_37 hl (by decide) rfl (fun ls hl => ?_)
    refine lv_aload_n x.1 x.2.1 dd_md_send_39 rfl (lv_at hl 1 rfl) ?_
    refine mp_get x hH (la13 hL) fg_md_74 rfl dd_md_send_40 ?_
    refine lv_iload x.1 x.2.1 dd_md_send_43 (lv_at hl 0 rfl) ?_
    refine lv_iload_n x.1 x.2.1 dd_md_send_45 rfl (lv_at hl 2 rfl) ?_
    refine ka_st x hH hS hL 21 (j := 34 * n) (by decide) (by decide) (show 34 * n < 3400 from (by omega)) (by decide) dd_md_send_46 (fun σ hL H locs hH hS => ?_)
    refine lv_aload_n x.1 x.2.1 dd_md_send_47 rfl (lv_at hl 1 rfl) ?_
    refine mp_get x hH (la13 hL) fg_md_74 rfl dd_md_send_48 ?_
    refine lv_iload x.1 x.2.1 dd_md_send_51 (lv_at hl 0 rfl) ?_
    refine lv_iconst (v := nI 1) x.1 x.2.1 dd_md_send_53 (by decide +kernel) ?_
    refine lv_iadd x.1 x.2.1 dd_md_send_54 ?_
    refine mn_top (w := nI (34 * n + 1)) (nI_add _ _) ?_
    refine lv_iload_n x.1 x.2.1 dd_md_send_55 rfl (lv_at hl 3 rfl) ?_
    refine ka_st x hH hS hL 21 (j := 34 * n + 1) (by decide) (by decide) (show 34 * n + 1 < 3400 from (by omega)) (by decide) dd_md_send_56 (fun σ hL H locs hH hS => ?_)
    refine lv_aload_n x.1 x.2.1 dd_md_send_57 rfl (lv_at hl 1 rfl) ?_
    refine mp_get x hH (la13 hL) fg_md_74 rfl dd_md_send_58 ?_
    refine lv_iload x.1 x.2.1 dd_md_send_61 (lv_at hl 0 rfl) ?_
    refine lv_iconst (v := nI 2) x.1 x.2.1 dd_md_send_63 (by decide +kernel) ?_
    refine lv_iadd x.1 x.2.1 dd_md_send_64 ?_
    refine mn_top (w := nI (34 * n + 2)) (nI_add _ _) ?_
    refine lv_iload_n x.1 x.2.1 dd_md_send_65 rfl (lv_at hl 4 rfl) ?_
    refine ka_st x hH hS hL 21 (j := 34 * n + 2) (by decide) (by decide) (show 34 * n + 2 < 3400 from (by omega)) (by decide) dd_md_send_66 (fun σ hL H locs hH hS => ?_)
    refine lv_aload_n x.1 x.2.1 dd_md_send_67 rfl (lv_at hl 1 rfl) ?_
    refine mp_get x hH (la13 hL) fg_md_74 rfl dd_md_send_68 ?_
    refine lv_iload x.1 x.2.1 dd_md_send_71 (lv_at hl 0 rfl) ?_
    refine lv_iconst (v := nI 3) x.1 x.2.1 dd_md_send_73 (by decide +kernel) ?_
    refine lv_iadd x.1 x.2.1 dd_md_send_74 ?_
    refine mn_top (w := nI (34 * n + 3)) (nI_add _ _) ?_
    refine lv_iload x.1 x.2.1 dd_md_send_75 (lv_at hl 5 rfl) ?_
    refine ka_st x hH hS hL 21 (j := 34 * n + 3) (by decide) (by decide) (show 34 * n + 3 < 3400 from (by omega)) (by decide) dd_md_send_77 (fun σ hL H locs hH hS => ?_)
    refine lv_aload_n x.1 x.2.1 dd_md_send_78 rfl (lv_at hl 1 rfl) ?_
    refine mp_get x hH (la13 hL) fg_md_74 rfl dd_md_send_79 ?_
    refine lv_iload x.1 x.2.1 dd_md_send_82 (lv_at hl 0 rfl) ?_
    refine lv_iconst (v := nI 4) x.1 x.2.1 dd_md_send_84 (by decide +kernel) ?_
    refine lv_iadd x.1 x.2.1 dd_md_send_85 ?_
    refine mn_top (w := nI (34 * n + 4)) (nI_add _ _) ?_
    refine lv_iload x.1 x.2.1 dd_md_send_86 (lv_at hl 6 rfl) ?_
    refine ka_st x hH hS hL 21 (j := 34 * n + 4) (by decide) (by decide) (show 34 * n + 4 < 3400 from (by omega)) (by decide) dd_md_send_88 (fun σ hL H locs hH hS => ?_)
    refine lv_aload_n x.1 x.2.1 dd_md_send_89 rfl (lv_at hl 1 rfl) ?_
    refine mp_get x hH (la13 hL) fg_md_74 rfl dd_md_send_90 ?_
    refine lv_iload x.1 x.2.1 dd_md_send_93 (lv_at hl 0 rfl) ?_
    refine lv_iconst (v := nI 5) x.1 x.2.1 dd_md_send_95 (by decide +kernel) ?_
    refine lv_iadd x.1 x.2.1 dd_md_send_96 ?_
    refine mn_top (w := nI (34 * n + 5)) (nI_add _ _) ?_
    refine lv_iload x.1 x.2.1 dd_md_send_97 (lv_at hl 7 rfl) ?_
    refine ka_st x hH hS hL 21 (j := 34 * n + 5) (by decide) (by decide) (show 34 * n + 5 < 3400 from (by omega)) (by decide) dd_md_send_99 (fun σ hL H locs hH hS => ?_)
    refine lv_aload_n x.1 x.2.1 dd_md_send_100 rfl (lv_at hl 1 rfl) ?_
    refine mp_get x hH (la13 hL) fg_md_74 rfl dd_md_send_101 ?_
    refine lv_iload x.1 x.2.1 dd_md_send_104 (lv_at hl 0 rfl) ?_
    refine lv_bipush (v := nI 6) x.1 x.2.1 dd_md_send_106 (by decide +kernel) ?_
    refine lv_iadd x.1 x.2.1 dd_md_send_108 ?_
    refine mn_top (w := nI (34 * n + 6)) (nI_add _ _) ?_
    refine lv_iload x.1 x.2.1 dd_md_send_109 (lv_at hl 8 rfl) ?_
    refine ka_st x hH hS hL 21 (j := 34 * n + 6) (by decide) (by decide) (show 34 * n + 6 < 3400 from (by omega)) (by decide) dd_md_send_111 (fun σ hL H locs hH hS => ?_)
    refine lv_aload_n x.1 x.2.1 dd_md_send_112 rfl (lv_at hl 1 rfl) ?_
    refine mp_get x hH (la13 hL) fg_md_74 rfl dd_md_send_113 ?_
    refine lv_iload x.1 x.2.1 dd_md_send_116 (lv_at hl 0 rfl) ?_
    refine lv_bipush (v := nI 7) x.1 x.2.1 dd_md_send_118 (by decide +kernel) ?_
    refine lv_iadd x.1 x.2.1 dd_md_send_120 ?_
    refine mn_top (w := nI (34 * n + 7)) (nI_add _ _) ?_
    refine lv_iload x.1 x.2.1 dd_md_send_121 (lv_at hl 9 rfl) ?_
    refine ka_st x hH hS hL 21 (j := 34 * n + 7) (by decide) (by decide) (show 34 * n + 7 < 3400 from (by omega)) (by decide) dd_md_send_123 (fun σ hL H locs hH hS => ?_)
    refine lv_aload_n x.1 x.2.1 dd_md_send_124 rfl (lv_at hl 1 rfl) ?_
    refine mp_get x hH (la13 hL) fg_md_74 rfl dd_md_send_125 ?_
    refine lv_iload x.1 x.2.1 dd_md_send_128 (lv_at hl 0 rfl) ?_
    refine lv_bipush (v := nI 8) x.1 x.2.1 dd_md_send_130 (by decide +kernel) ?_
    refine lv_iadd x.1 x.2.1 dd_md_send_132 ?_
    refine mn_top (w := nI (34 * n + 8)) (nI_add _ _) ?_
    refine lv_iload x.1 x.2.1 dd_md_send_133 (lv_at hl 10 rfl) ?_
    refine ka_st x hH hS hL 21 (j := 34 * n + 8) (by decide) (by decide) (show 34 * n + 8 < 3400 from (by omega)) (by decide) dd_md_send_135 (fun σ hL H locs hH hS => ?_)
    refine lv_iload_n x.1 x.2.1 dd_md_send_136 rfl (lv_at hl 3 rfl) ?_
    refine lv_iload x.1 x.2.1 dd_md_send_137 (lv_at hl 5 rfl) ?_
    refine mp_call x (wt_mv base) hG hB hl.1 (mp_invS (av := [.int (nI a0), .int (nI b0)]) x mn_md_at mc_md_at (Or.inl ww_826) ww_827 ww_60 rfl dd_md_send_139) (kk_M_at (a0 := a0) (b0 := b0)) (Nat.le_trans (Nat.le_of_ble_eq_true rfl) hfr) (Nat.le_trans (Nat.le_of_ble_eq_true rfl) hlo) (Nat.le_trans (Nat.le_of_ble_eq_true rfl) hce) (Nat.le_trans (Nat.le_of_ble_eq_true rfl) hsl) hH hS (fun v σa t0 H locs hp334 ht0 hvm hzz hH hS => ?_) (fun _ _ _ _ _ hz _ _ _ _ _ => by cases hz.1)
    obtain ⟨ho, hσ⟩ := hp334
    cases ho
    rw [hσ] at hH
    refine W.eq (g2 := F0 m 142 ls [.int (nI (20 * a0 + b0))]) rfl ?_
    refine mn_top (w := nI a) (congrArg nI hA) ?_
    refine lv_istore (lv' := [(11, .int (nI a)), (10, .int (nI (34 * n))), (0, .ref (ad 13 0)), (1, .int kk), (2, .int (nI a0)), (3, .int to), (4, .int (nI b0)), (5, .int su), (6, .int nu), (7, .int mo), (8, .int sp), (9, .int dy)]) x.1 x.2.1 dd_md_send_142 hl (by decide) rfl (fun ls hl => ?_)
    refine lv_aload_n x.1 x.2.1 dd_md_send_144 rfl (lv_at hl 2 rfl) ?_
    refine mp_get x hH (la13 hL) fg_md_74 rfl dd_md_send_145 ?_
    refine lv_iload x.1 x.2.1 dd_md_send_148 (lv_at hl 1 rfl) ?_
    refine lv_bipush (v := nI 9) x.1 x.2.1 dd_md_send_150 (by decide +kernel) ?_
    refine lv_iadd x.1 x.2.1 dd_md_send_152 ?_
    refine mn_top (w := nI (34 * n + 9)) (nI_add _ _) ?_
    refine lv_aload_n x.1 x.2.1 dd_md_send_153 rfl (lv_at hl 2 rfl) ?_
    refine mp_get x hH (la13 hL) fg_md_20 rfl dd_md_send_154 ?_
    refine lv_iload x.1 x.2.1 dd_md_send_157 (lv_at hl 0 rfl) ?_
    refine ka_ld x hH hL 3 (j := a) (by decide) (by decide) (show a < 500 from (by omega)) (by decide) dd_md_send_159 ?_
    refine mn_top (w := nI dc) ((mu_k (by decide)).trans ((mu_k (by decide)).trans ((mu_k (by decide)).trans ((mu_k (by decide)).trans ((mu_k (by decide)).trans ((mu_k (by decide)).trans ((mu_k (by decide)).trans ((mu_k (by decide)).trans ((mu_k (by decide)).trans ((mu_k (by decide)).trans (hdc))))))))))) ?_
    refine ka_st x hH hS hL 21 (j := 34 * n + 9) (by decide) (by decide) (show 34 * n + 9 < 3400 from (by omega)) (by decide) dd_md_send_160 (fun σ hL H locs hH hS => ?_)
    refine lv_iconst (v := nI 0) x.1 x.2.1 dd_md_send_161 (by decide +kernel) ?_
    refine lv_istore (lv' := [(12, .int (nI 0)), (11, .int (nI a)), (10, .int (nI (34 * n))), (0, .ref (ad 13 0)), (1, .int kk), (2, .int (nI a0)), (3, .int to), (4, .int (nI b0)), (5, .int su), (6, .int nu), (7, .int mo), (8, .int sp), (9, .int dy)]) x.1 x.2.1 dd_md_send_162 hl (by decide) rfl (fun ls hl => ?_)
    have loop335 : ∀ (n336 : Nat) (i : Nat) (σ : mp_M), i ≤ dc → Lay ar ad rg pl V (cpl (mhd M n a0 b0 dc kk to su nu mo sp dy) a (34 * n) i) σ → dc - i < n336 → ∀ (ls : Array Slot) (H : Heap) (locs : List Loc), lv_has ls 13 [(0, .ref (ad 13 0)), (10, .int (nI (34 * n))), (11, .int (nI a)), (12, .int (nI i))] → HH D base σ H → va_S (mp_A base) s.heap H locs → W p l e R s m [.ref (ad 13 0), .int kk, .int (nI a0), .int to, .int (nI b0), .int su, .int nu, .int mo, .int sp, .int dy].toArray below meth c H locs 0 0 (mp_Q below s 0 0 base (mp_P D cl_L base s (fun o σ' _ => o = .returned none ∧ Lay ar ad rg pl V (msn M n a dc a0 b0 kk to su nu mo sp dy) σ'))) (F0 m 164 ls []) := by
      intro n336
      induction n336 with
      | zero => intro i σ hi hL hmz; exact absurd hmz (Nat.not_lt_zero _)
      | succ n336 ihloop335 =>
        intro i σ hi hL hmz ls H locs hl hH hS
        refine lv_iload x.1 x.2.1 dd_md_send_164 (lv_at hl 3 rfl) ?_
        refine lv_aload_n x.1 x.2.1 dd_md_send_166 rfl (lv_at hl 0 rfl) ?_
        refine mp_get x hH (la13 hL) fg_md_20 rfl dd_md_send_167 ?_
        refine lv_iload x.1 x.2.1 dd_md_send_170 (lv_at hl 2 rfl) ?_
        refine ka_ld x hH hL 3 (j := a) (by decide) (by decide) (show a < 500 from (by omega)) (by decide) dd_md_send_172 ?_
        refine mn_top (w := nI dc) (((cpl_o (by decide)).trans (mhd_o (by decide) (by decide))).trans hdc) ?_
        refine lv_icmp_ge (tgt := 238) x.1 x.2.1 dd_md_send_173 (by decide) (fun c337 => ?_) (fun c337 => ?_)
        · have c337 : dc ≤ i := (cv_le (a := dc) (b := i) (by omega) (by omega)).mp c337
          refine lv_aload_n x.1 x.2.1 dd_md_send_238 rfl (lv_at hl 0 rfl) ?_
          refine lv_dup x.1 x.2.1 dd_md_send_239 rfl ?_
          refine mp_get x hH (la13 hL) fg_md_99 rfl dd_md_send_240 ?_
          refine mn_top (w := nI n) (((cpl_o (by decide)).trans (mhd_o (by decide) (by decide))).trans hn) ?_
          refine lv_iconst (v := nI 1) x.1 x.2.1 dd_md_send_243 (by decide +kernel) ?_
          refine lv_iadd x.1 x.2.1 dd_md_send_244 ?_
          refine mn_top (w := nI (n + 1)) (nI_add _ _) ?_
          refine kp_22 x hH hS hL fp_md_99 dd_md_send_245 (fun σ hL H locs hH hS => ?_)
          obtain rfl : i = dc := by omega
          exact mp_rv x hr hlk (by decide) (by decide) hH hS (fun _ => ⟨rfl, by unfold msn; rw [if_neg c333]; exact hL⟩) dd_md_send_248
        · have c337 : ¬ (dc ≤ i) := fun h => c337 ((cv_le (a := dc) (b := i) (by omega) (by omega)).mpr h)
          refine lv_aload_n x.1 x.2.1 dd_md_send_176 rfl (lv_at hl 0 rfl) ?_
          refine mp_get x hH (la13 hL) fg_md_74 rfl dd_md_send_177 ?_
          refine lv_iload x.1 x.2.1 dd_md_send_180 (lv_at hl 1 rfl) ?_
          refine lv_bipush (v := nI 10) x.1 x.2.1 dd_md_send_182 (by decide +kernel) ?_
          refine lv_iadd x.1 x.2.1 dd_md_send_184 ?_
          refine mn_top (w := nI (34 * n + 10)) (nI_add _ _) ?_
          refine lv_iconst (v := nI 2) x.1 x.2.1 dd_md_send_185 (by decide +kernel) ?_
          refine lv_iload x.1 x.2.1 dd_md_send_186 (lv_at hl 3 rfl) ?_
          refine lv_imul x.1 x.2.1 dd_md_send_188 ?_
          refine mn_top (w := nI (2 * i)) (pk_mul _ _) ?_
          refine lv_iadd x.1 x.2.1 dd_md_send_189 ?_
          refine mn_top (w := nI (34 * n + 10 + (2 * i))) (nI_add _ _) ?_
          refine lv_aload_n x.1 x.2.1 dd_md_send_190 rfl (lv_at hl 0 rfl) ?_
          refine mp_get x hH (la13 hL) fg_md_38 rfl dd_md_send_191 ?_
          refine lv_bipush (v := nI 12) x.1 x.2.1 dd_md_send_194 (by decide +kernel) ?_
          refine lv_iload x.1 x.2.1 dd_md_send_196 (lv_at hl 2 rfl) ?_
          refine lv_imul x.1 x.2.1 dd_md_send_198 ?_
          refine mn_top (w := nI (12 * a)) (pk_mul _ _) ?_
          refine lv_iload x.1 x.2.1 dd_md_send_199 (lv_at hl 3 rfl) ?_
          refine lv_iadd x.1 x.2.1 dd_md_send_201 ?_
          refine mn_top (w := nI (12 * a + i)) (nI_add _ _) ?_
          refine ka_ld x hH hL 9 (j := 12 * a + i) (by decide) (by decide) (show 12 * a + i < 6000 from (by omega)) (by decide) dd_md_send_202 ?_
          refine mn_top (w := (mhd M n a0 b0 dc kk to su nu mo sp dy) 9 (12 * a + i)) (cpl_o (by decide)) ?_
          refine ka_st x hH hS hL 21 (j := 34 * n + 10 + (2 * i)) (by decide) (by decide) (show 34 * n + 10 + (2 * i) < 3400 from (by omega)) (by decide) dd_md_send_203 (fun σ hL H locs hH hS => ?_)
          refine lv_aload_n x.1 x.2.1 dd_md_send_204 rfl (lv_at hl 0 rfl) ?_
          refine mp_get x hH (la13 hL) fg_md_74 rfl dd_md_send_205 ?_
          refine lv_iload x.1 x.2.1 dd_md_send_208 (lv_at hl 1 rfl) ?_
          refine lv_bipush (v := nI 11) x.1 x.2.1 dd_md_send_210 (by decide +kernel) ?_
          refine lv_iadd x.1 x.2.1 dd_md_send_212 ?_
          refine mn_top (w := nI (34 * n + 11)) (nI_add _ _) ?_
          refine lv_iconst (v := nI 2) x.1 x.2.1 dd_md_send_213 (by decide +kernel) ?_
          refine lv_iload x.1 x.2.1 dd_md_send_214 (lv_at hl 3 rfl) ?_
          refine lv_imul x.1 x.2.1 dd_md_send_216 ?_
          refine mn_top (w := nI (2 * i)) (pk_mul _ _) ?_
          refine lv_iadd x.1 x.2.1 dd_md_send_217 ?_
          refine mn_top (w := nI (34 * n + 11 + (2 * i))) (nI_add _ _) ?_
          refine lv_aload_n x.1 x.2.1 dd_md_send_218 rfl (lv_at hl 0 rfl) ?_
          refine mp_get x hH (la13 hL) fg_md_41 rfl dd_md_send_219 ?_
          refine lv_bipush (v := nI 12) x.1 x.2.1 dd_md_send_222 (by decide +kernel) ?_
          refine lv_iload x.1 x.2.1 dd_md_send_224 (lv_at hl 2 rfl) ?_
          refine lv_imul x.1 x.2.1 dd_md_send_226 ?_
          refine mn_top (w := nI (12 * a)) (pk_mul _ _) ?_
          refine lv_iload x.1 x.2.1 dd_md_send_227 (lv_at hl 3 rfl) ?_
          refine lv_iadd x.1 x.2.1 dd_md_send_229 ?_
          refine mn_top (w := nI (12 * a + i)) (nI_add _ _) ?_
          refine ka_ld x hH hL 10 (j := 12 * a + i) (by decide) (by decide) (show 12 * a + i < 6000 from (by omega)) (by decide) dd_md_send_230 ?_
          refine mn_top (w := (mhd M n a0 b0 dc kk to su nu mo sp dy) 10 (12 * a + i)) ((mu_k (by decide)).trans (cpl_o (by decide))) ?_
          refine ka_st x hH hS hL 21 (j := 34 * n + 11 + (2 * i)) (by decide) (by decide) (show 34 * n + 11 + (2 * i) < 3400 from (by omega)) (by decide) dd_md_send_231 (fun σ hL H locs hH hS => ?_)
          refine lv_iinc (v := nI (i + 1)) (lv' := [(12, .int (nI (i + 1))), (0, .ref (ad 13 0)), (10, .int (nI (34 * n))), (11, .int (nI a))]) x.1 x.2.1 dd_md_send_232 hl (k := 3) rfl (mn_inc _) (by decide) rfl (fun ls hl => ?_)
          refine lv_goto (tgt := 164) x.1 x.2.1 dd_md_send_235 (by decide) ?_
          exact ihloop335 (i + 1) _ (by omega) hL (by omega) ls H _ (lv_sub hl [1, 2, 3, 0] rfl) hH hS
    exact loop335 _ 0 _ (Nat.zero_le _) hL (Nat.lt_succ_self _) ls H _ (lv_sub hl [3, 2, 1, 0] rfl) hH hS
  · have c333 : n = 100 := (cv_eq (a := n) (b := 100) (by omega) (by omega)).mp c333
    refine lv_aload_n x.1 x.2.1 dd_md_send_19 rfl (lv_at hl 0 rfl) ?_
    refine lv_dup x.1 x.2.1 dd_md_send_20 rfl ?_
    refine mp_get x hH (la13 hL) fg_md_102 rfl dd_md_send_21 ?_
    refine mn_top (w := M 24 0) (mu_k (by decide)) ?_
    refine lv_iconst (v := nI 1) x.1 x.2.1 dd_md_send_24 (by decide +kernel) ?_
    refine lv_iadd x.1 x.2.1 dd_md_send_25 ?_
    refine kp_24 x hH hS hL fp_md_102 dd_md_send_26 (fun σ hL H locs hH hS => ?_)
    exact mp_rv x hr hlk (by decide) (by decide) hH hS (fun _ => ⟨rfl, by unfold msn; rw [if_pos c333]; exact hL⟩) dd_md_send_29
set_option maxRecDepth 100000 in
set_option maxHeartbeats 4000000 in
theorem kk_M_take {l : Launch} {D : va_G} {ar : Nat → ClassId} {base : Nat} {σ : mp_M} {ad : Nat → Nat → Nat} {rg : Nat → Bool} {pl : Nat → Nat} {V M : fV} {i n : Nat} (hL : Lay ar ad rg pl V M σ) (hn : M 22 0 = nI n) (hn2 : n ≤ 100) (hi : i < n) : CN l D ar base yy_md_take prog_9_method_10_code 3 (Option.none : Option Jvm.ClassFile.FieldType) [] 0 0 0 0 [.ref (ad 13 0), .int (nI i)] σ (fun o σ' _ => o = .returned none ∧ Lay ar ad rg pl V (mtk M i n) σ') := by
  refine mp_in (Nat.le_of_ble_eq_true rfl) ?_
  intro p e R s m below meth c x hfr hlo hce hsl hr hlk hin hex hG hB ls H hH0 hH hS hl
  have hl : lv_has ls 3 [(0, .ref (ad 13 0)), (1, .int (nI i))] := hl
  refine lv_iconst (v := nI 0) x.1 x.2.1 dd_md_take_0 (by decide +kernel) ?_
  refine lv_istore_n (lv' := [(2, .int (nI 0)), (0, .ref (ad 13 0)), (1, .int (nI i))]) x.1 x.2.1 dd_md_take_1 rfl hl (by decide) rfl (fun ls hl => ?_)
  have loop338 : ∀ (n339 : Nat) (j : Nat) (σ : mp_M), j ≤ 34 → Lay ar ad rg pl V (chd M i j) σ → 34 - j < n339 → ∀ (ls : Array Slot) (H : Heap) (locs : List Loc), lv_has ls 3 [(0, .ref (ad 13 0)), (1, .int (nI i)), (2, .int (nI j))] → HH D base σ H → va_S (mp_A base) s.heap H locs → W p l e R s m [.ref (ad 13 0), .int (nI i)].toArray below meth c H locs 0 0 (mp_Q below s 0 0 base (mp_P D cl_L base s (fun o σ' _ => o = .returned none ∧ Lay ar ad rg pl V (mtk M i n) σ'))) (F0 m 2 ls []) := by
    intro n339
    induction n339 with
    | zero => intro j σ hj hL hmz; exact absurd hmz (Nat.not_lt_zero _)
    | succ n339 ihloop338 =>
      intro j σ hj hL hmz ls H locs hl hH hS
      refine lv_iload_n x.1 x.2.1 dd_md_take_2 rfl (lv_at hl 2 rfl) ?_
      refine lv_bipush (v := nI 34) x.1 x.2.1 dd_md_take_3 (by decide +kernel) ?_
      refine lv_icmp_ge (tgt := 31) x.1 x.2.1 dd_md_take_5 (by decide) (fun c340 => ?_) (fun c340 => ?_)
      · have c340 : 34 ≤ j := (cv_le (a := 34) (b := j) (by omega) (by omega)).mp c340
        obtain rfl : j = 34 := by omega
        refine lv_aload_n x.1 x.2.1 dd_md_take_31 rfl (lv_at hl 0 rfl) ?_
        refine lv_dup x.1 x.2.1 dd_md_take_32 rfl ?_
        refine mp_get x hH (la13 hL) fg_md_99 rfl dd_md_take_33 ?_
        refine mn_top (w := nI n) ((chd_o (by decide)).trans hn) ?_
        refine lv_iconst (v := nI 1) x.1 x.2.1 dd_md_take_36 (by decide +kernel) ?_
        refine lv_isub x.1 x.2.1 dd_md_take_37 ?_
        refine mn_top (w := nI (n - 1)) (pk_sub (by omega)) ?_
        refine kp_22 x hH hS hL fp_md_99 dd_md_take_38 (fun σ hL H locs hH hS => ?_)
        refine lv_bipush (v := nI 34) x.1 x.2.1 dd_md_take_41 (by decide +kernel) ?_
        refine lv_iload_n x.1 x.2.1 dd_md_take_43 rfl (lv_at hl 1 rfl) ?_
        refine lv_imul x.1 x.2.1 dd_md_take_44 ?_
        refine mn_top (w := nI (34 * i)) (pk_mul _ _) ?_
        refine lv_istore_n (lv' := [(2, .int (nI (34 * i))), (0, .ref (ad 13 0)), (1, .int (nI i))]) x.1 x.2.1 dd_md_take_45 rfl hl (by decide) rfl (fun ls hl => ?_)
        have loop341 : ∀ (n342 : Nat) (q : Nat) (σ : mp_M), 34 * i + q ≤ 34 * (n - 1) → Lay ar ad rg pl V (slt (mu (chd M i 34) 22 0 (nI (n - 1))) (34 * i) q) σ → 34 * n - q < n342 → ∀ (ls : Array Slot) (H : Heap) (locs : List Loc), lv_has ls 3 [(0, .ref (ad 13 0)), (1, .int (nI i)), (2, .int (nI (34 * i + q)))] → HH D base σ H → va_S (mp_A base) s.heap H locs → W p l e R s m [.ref (ad 13 0), .int (nI i)].toArray below meth c H locs 0 0 (mp_Q below s 0 0 base (mp_P D cl_L base s (fun o σ' _ => o = .returned none ∧ Lay ar ad rg pl V (mtk M i n) σ'))) (F0 m 46 ls []) := by
          intro n342
          induction n342 with
          | zero => intro q σ hq hL hmz; exact absurd hmz (Nat.not_lt_zero _)
          | succ n342 ihloop341 =>
            intro q σ hq hL hmz ls H locs hl hH hS
            refine lv_iload_n x.1 x.2.1 dd_md_take_46 rfl (lv_at hl 2 rfl) ?_
            refine lv_bipush (v := nI 34) x.1 x.2.1 dd_md_take_47 (by decide +kernel) ?_
            refine lv_aload_n x.1 x.2.1 dd_md_take_49 rfl (lv_at hl 0 rfl) ?_
            refine mp_get x hH (la13 hL) fg_md_99 rfl dd_md_take_50 ?_
            refine mn_top (w := nI (n - 1)) ((slt_o (by decide)).trans mu_s) ?_
            refine lv_imul x.1 x.2.1 dd_md_take_53 ?_
            refine mn_top (w := nI (34 * (n - 1))) (pk_mul _ _) ?_
            refine lv_icmp_ge (tgt := 78) x.1 x.2.1 dd_md_take_54 (by decide) (fun c343 => ?_) (fun c343 => ?_)
            · have c343 : 34 * (n - 1) ≤ 34 * i + q := (cv_le (a := 34 * (n - 1)) (b := 34 * i + q) (by omega) (by omega)).mp c343
              obtain rfl : q = 34 * (n - 1) - 34 * i := by omega
              exact mp_rv x hr hlk (by decide) (by decide) hH hS (fun _ => ⟨rfl, hL⟩) dd_md_take_78
            · have c343 : ¬ (34 * (n - 1) ≤ 34 * i + q) := fun h => c343 ((cv_le (a := 34 * (n - 1)) (b := 34 * i + q) (by omega) (by omega)).mpr h)
              refine lv_aload_n x.1 x.2.1 dd_md_take_57 rfl (lv_at hl 0 rfl) ?_
              refine mp_get x hH (la13 hL) fg_md_74 rfl dd_md_take_58 ?_
              refine lv_iload_n x.1 x.2.1 dd_md_take_61 rfl (lv_at hl 2 rfl) ?_
              refine lv_aload_n x.1 x.2.1 dd_md_take_62 rfl (lv_at hl 0 rfl) ?_
              refine mp_get x hH (la13 hL) fg_md_74 rfl dd_md_take_63 ?_
              refine lv_iload_n x.1 x.2.1 dd_md_take_66 rfl (lv_at hl 2 rfl) ?_
              refine lv_bipush (v := nI 34) x.1 x.2.1 dd_md_take_67 (by decide +kernel) ?_
              refine lv_iadd x.1 x.2.1 dd_md_take_69 ?_
              refine mn_top (w := nI (34 * i + q + 34)) (nI_add _ _) ?_
              refine ka_ld x hH hL 21 (j := 34 * i + q + 34) (by decide) (by decide) (show 34 * i + q + 34 < 3400 from (by omega)) (by decide) dd_md_take_70 ?_
              refine mn_top (w := (mu (chd M i 34) 22 0 (nI (n - 1))) 21 (34 * i + q + 34)) (slt_hi (by omega)) ?_
              refine ka_st x hH hS hL 21 (j := 34 * i + q) (by decide) (by decide) (show 34 * i + q < 3400 from (by omega)) (by decide) dd_md_take_71 (fun σ hL H locs hH hS => ?_)
              refine lv_iinc (v := nI (34 * i + q + 1)) (lv' := [(2, .int (nI (34 * i + q + 1))), (0, .ref (ad 13 0)), (1, .int (nI i))]) x.1 x.2.1 dd_md_take_72 hl (k := 2) rfl (mn_inc _) (by decide) rfl (fun ls hl => ?_)
              refine lv_goto (tgt := 46) x.1 x.2.1 dd_md_take_75 (by decide) ?_
              exact ihloop341 (q + 1) _ (by omega) hL (by omega) ls H _ (lv_sub hl [1, 2, 0] rfl) hH hS
        exact loop341 _ 0 _ (by omega) hL (Nat.lt_succ_self _) ls H _ (lv_sub hl [1, 2, 0] rfl) hH hS
      · have c340 : ¬ (34 ≤ j) := fun h => c340 ((cv_le (a := 34) (b := j) (by omega) (by omega)).mpr h)
        refine lv_aload_n x.1 x.2.1 dd_md_take_8 rfl (lv_at hl 0 rfl) ?_
        refine mp_get x hH (la13 hL) fg_md_77 rfl dd_md_take_9 ?_
        refine lv_iload_n x.1 x.2.1 dd_md_take_12 rfl (lv_at hl 2 rfl) ?_
        refine lv_aload_n x.1 x.2.1 dd_md_take_13 rfl (lv_at hl 0 rfl) ?_
        refine mp_get x hH (la13 hL) fg_md_74 rfl dd_md_take_14 ?_
        refine lv_bipush (v := nI 34) x.1 x.2.1 dd_md_take_17 (by decide +kernel) ?_
        refine lv_iload_n x.1 x.2.1 dd_md_take_19 rfl (lv_at hl 1 rfl) ?_
        refine lv_imul x.1 x.2.1 dd_md_take_20 ?_
        refine mn_top (w := nI (34 * i)) (pk_mul _ _) ?_
        refine lv_iload_n x.1 x.2.1 dd_md_take_21 rfl (lv_at hl 2 rfl) ?_
        refine lv_iadd x.1 x.2.1 dd_md_take_22 ?_
        refine mn_top (w := nI (34 * i + j)) (nI_add _ _) ?_
        refine ka_ld x hH hL 21 (j := 34 * i + j) (by decide) (by decide) (show 34 * i + j < 3400 from (by omega)) (by decide) dd_md_take_23 ?_
        refine mn_top (w := M 21 (34 * i + j)) (chd_o (by decide)) ?_
        refine ka_st x hH hS hL 23 (j := j) (by decide) (by decide) (show j < 34 from (by omega)) (by decide) dd_md_take_24 (fun σ hL H locs hH hS => ?_)
        refine lv_iinc (v := nI (j + 1)) (lv' := [(2, .int (nI (j + 1))), (0, .ref (ad 13 0)), (1, .int (nI i))]) x.1 x.2.1 dd_md_take_25 hl (k := 2) rfl (mn_inc _) (by decide) rfl (fun ls hl => ?_)
        refine lv_goto (tgt := 2) x.1 x.2.1 dd_md_take_28 (by decide) ?_
        exact ihloop338 (j + 1) _ (by omega) hL (by omega) ls H _ (lv_sub hl [1, 2, 0] rfl) hH hS
  exact loop338 _ 0 _ (by decide) hL (Nat.lt_succ_self _) ls H _ (lv_sub hl [1, 2, 0] rfl) hH hS
