/-! THE ROW OF LETTERS over the flat state. -/
/-- the row: its first place, how many lie there, and no place holds the draft -/
def RW (pl : Nat → Nat) (V : fV) (f n : Nat) : Prop := V 54 0 = nI f ∧ f < 100 ∧ V 55 0 = nI n ∧ n ≤ 100 ∧ ∀ q, q ≤ 100 → pl q < 101
def snd (pl : Nat → Nat) (f n nc : Nat) (V : fV) (to : Int32) : fV := if n < 100 then mu (slb (mu (mu V 58 0 (V 58 0 + nI 1)) 46 101 to) (pl ((f + n) % 100 + 1)) 101 nc) 55 0 (nI (n + 1)) else mu (mu V 58 0 (V 58 0 + nI 1)) 56 0 (V 56 0 + nI 1)
def nx1 (n : Nat) : Nat := if n < 100 then n + 1 else n
def m1 (n : Nat) : Nat := if n < 100 then n else 100
theorem nx1_m1 (n : Nat) : nx1 (m1 n) = m1 (n + 1) := by
  unfold nx1 m1
  (repeat' split) <;> omega
theorem m1_le {n : Nat} (h : n ≤ 100) : m1 n = n := by
  unfold m1
  split <;> omega
theorem snd_o {pl : Nat → Nat} {f n nc : Nat} {V : fV} {to : Int32} {k i : Nat} (hpl : ∀ q, q ≤ 100 → pl q < 101) (h : k < 44 ∨ 58 < k ∨ k = 53 ∨ k = 54 ∨ k = 57) (h2 : k < 1000) : snd pl f n nc V to k i = V k i := by
  unfold snd
  split
  · rw [mu_o (by omega), slb_o (by omega) (by omega), mu_o (by omega), mu_o (by omega)]
  · rw [mu_o (by omega), mu_o (by omega)]
/-- the draft is as it was, but for whom it is -/
theorem snd_d {pl : Nat → Nat} {f n nc : Nat} {V : fV} {to : Int32} {k : Nat} (hpl : ∀ q, q ≤ 100 → pl q < 101) (h : 44 ≤ k ∧ k ≤ 52 ∧ k ≠ 46) : snd pl f n nc V to k 101 = V k 101 := by
  unfold snd
  split
  · have := hpl ((f + n) % 100 + 1) (by omega)
    rw [mu_o (by omega), slb_o (by omega) (by omega), mu_o (by omega), mu_o (by omega)]
  · rw [mu_o (by omega), mu_o (by omega)]
theorem snd_RW {pl : Nat → Nat} {f n nc : Nat} {V : fV} {to : Int32} (h : RW pl V f n) : RW pl (snd pl f n nc V to) f (nx1 n) := by
  obtain ⟨hf, hf2, hn, hn2, hpl⟩ := h
  refine ⟨(snd_o hpl (by omega) (by omega)).trans hf, hf2, ?_, ?_, hpl⟩
  · unfold snd nx1
    split
    · rw [mu_s]
    · rw [mu_o (by omega), mu_o (by omega)]; exact hn
  · unfold nx1
    split <;> omega
theorem RW_o {pl : Nat → Nat} {V V' : fV} {f n : Nat} (h : RW pl V f n) (h1 : V' 54 0 = V 54 0) (h2 : V' 55 0 = V 55 0) : RW pl V' f n := ⟨h1.trans h.1, h.2.1, h2.trans h.2.2.1, h.2.2.2⟩
def sal (pl : Nat → Nat) (f n nc : Nat) (V : fV) : Nat → fV
  | 0 => V
  | k + 1 => snd pl f (m1 (n + k)) nc (sal pl f n nc V k) (nI k)
theorem sal_RW {pl : Nat → Nat} {f n nc : Nat} {V : fV} (h : RW pl V f n) (k : Nat) : RW pl (sal pl f n nc V k) f (m1 (n + k)) := by
  induction k with
  | zero => rw [Nat.add_zero, m1_le h.2.2.2.1]; exact h
  | succ k ih => have := snd_RW (nc := nc) (to := nI k) ih; rw [nx1_m1] at this; exact this
theorem sal_d {pl : Nat → Nat} {f n nc : Nat} {V : fV} {k : Nat} (hpl : ∀ q, q ≤ 100 → pl q < 101) (h : 44 ≤ k ∧ k ≤ 52 ∧ k ≠ 46) (j : Nat) : sal pl f n nc V j k 101 = V k 101 := by
  induction j with
  | zero => rfl
  | succ j ih => exact (snd_d hpl h).trans ih
theorem sal_o {pl : Nat → Nat} {f n nc : Nat} {V : fV} {k i : Nat} (hpl : ∀ q, q ≤ 100 → pl q < 101) (h : k < 44 ∨ 58 < k ∨ k = 53 ∨ k = 54 ∨ k = 57) (h2 : k < 1000) (j : Nat) : sal pl f n nc V j k i = V k i := by
  induction j with
  | zero => rfl
  | succ j ih => exact (snd_o hpl h h2).trans ih
set_option maxRecDepth 100000 in
set_option maxHeartbeats 4000000 in
theorem kk_R_place {l : Launch} {D : va_G} {ar : Nat → ClassId} {base : Nat} {σ : mp_M} {ad : Nat → Nat → Nat} {rg : Nat → Bool} {pl : Nat → Nat} {V M : fV} {f j : Nat} (hL : Lay ar ad rg pl V M σ) (hf : V 54 0 = nI f) (hf2 : f < 100) (hj : j ≤ 100) : CN l D ar base yy_lr_place prog_5_method_2_code 2 (Option.some Jvm.ClassFile.FieldType.int) [] 0 0 0 0 [.ref (ad 2 0), .int (nI j)] σ (fun o σ' _ => o = .returned (some (.int (nI ((f + j) % 100)))) ∧ σ' = σ) := by
  refine mp_in (Nat.le_of_ble_eq_true rfl) ?_
  intro p e R s m below meth c x hfr hlo hce hsl hr hlk hin hex hG hB ls H hH0 hH hS hl
  have hl : lv_has ls 2 [(0, .ref (ad 2 0)), (1, .int (nI j))] := hl
  refine lv_aload_n x.1 x.2.1 dd_lr_place_0 rfl (lv_at hl 0 rfl) ?_
  refine mp_get x hH (la2 hL) fg_lr_25 rfl dd_lr_place_1 ?_
  refine mn_top (w := nI f) (hf) ?_
  refine lv_iload_n x.1 x.2.1 dd_lr_place_4 rfl (lv_at hl 1 rfl) ?_
  refine lv_iadd x.1 x.2.1 dd_lr_place_5 ?_
  refine mn_top (w := nI (f + j)) (nI_add _ _) ?_
  refine lv_bipush (v := nI 100) x.1 x.2.1 dd_lr_place_6 (by decide +kernel) ?_
  refine lv_irem x.1 x.2.1 dd_lr_place_8 (by decide +kernel) ?_
  refine mn_top (w := nI ((f + j) % 100)) (pk_rem (by omega) (by decide) (by decide)) ?_
  exact mp_ri x hr hlk (by decide) (by decide) hH hS (fun _ => ⟨rfl, rfl⟩) dd_lr_place_9
set_option maxRecDepth 100000 in
set_option maxHeartbeats 4000000 in
theorem kk_R_at {l : Launch} {D : va_G} {ar : Nat → ClassId} {base : Nat} {σ : mp_M} {ad : Nat → Nat → Nat} {rg : Nat → Bool} {pl : Nat → Nat} {V M : fV} {f j : Nat} (hL : Lay ar ad rg pl V M σ) (hf : V 54 0 = nI f) (hf2 : f < 100) (hj : j ≤ 100) : CN l D ar base yy_lr_at prog_5_method_3_code 2 (Option.some (Jvm.ClassFile.FieldType.object "SupplyGrid$Letter")) [] 1 14 0 0 [.ref (ad 2 0), .int (nI j)] σ (fun o σ' _ => o = .returned (some (.ref (ad 4 (pl ((f + j) % 100 + 1))))) ∧ σ' = σ) := by
  refine mp_in (Nat.le_of_ble_eq_true rfl) ?_
  intro p e R s m below meth c x hfr hlo hce hsl hr hlk hin hex hG hB ls H hH0 hH hS hl
  have hl : lv_has ls 2 [(0, .ref (ad 2 0)), (1, .int (nI j))] := hl
  refine lv_aload_n x.1 x.2.1 dd_lr_at_0 rfl (lv_at hl 0 rfl) ?_
  refine mp_get x hH (la2 hL) fg_lr_11 rfl dd_lr_at_1 ?_
  refine lv_aload_n x.1 x.2.1 dd_lr_at_4 rfl (lv_at hl 0 rfl) ?_
  refine lv_iload_n x.1 x.2.1 dd_lr_at_5 rfl (lv_at hl 1 rfl) ?_
  refine mp_call x (wt_mv base) hG hB hl.1 (mp_invV (av := [.int (nI j)]) x hH (la2 hL) rfl rfl mn_lr_place mc_lr_place (Or.inl ww_502) ww_504 ww_17 rfl dd_lr_at_6) (kk_R_place (f := f) (j := j) hL (hf) (by omega) (by omega)) (Nat.le_trans (Nat.le_of_ble_eq_true rfl) hfr) (Nat.le_trans (Nat.le_of_ble_eq_true rfl) hlo) (Nat.le_trans (Nat.le_of_ble_eq_true rfl) hce) (Nat.le_trans (Nat.le_of_ble_eq_true rfl) hsl) hH hS (fun v σa t0 H locs hp89 ht0 hvm hzz hH hS => ?_) (fun _ _ _ _ _ hz _ _ _ _ _ => by cases hz.1)
  obtain ⟨ho, hσ⟩ := hp89
  cases ho
  rw [hσ] at hH
  refine W.eq (g2 := F0 m 9 ls [.int (nI ((f + j) % 100)), .ref (ad 3 0)]) rfl ?_
  refine kpl_ld x hH hL (j := (f + j) % 100) (by omega) dd_lr_at_9 ?_
  exact mp_rr x hr hlk (by decide) (by decide) hH hS (fun _ => ⟨rfl, rfl⟩) dd_lr_at_10
theorem up_lt1 {pl : Nat → Nat} {a b : Nat} (h : ∀ q, q ≤ 100 → pl q < 101) (hb : b < 101) : ∀ q, q ≤ 100 → va_up pl a b q < 101 := by
  intro q hq
  unfold va_up
  split
  · exact hb
  · exact h q hq
set_option maxRecDepth 100000 in
set_option maxHeartbeats 4000000 in
theorem kk_R_take {l : Launch} {D : va_G} {ar : Nat → ClassId} {base : Nat} {σ : mp_M} {ad : Nat → Nat → Nat} {rg : Nat → Bool} {pl : Nat → Nat} {V M : fV} {f n i : Nat} (hL : Lay ar ad rg pl V M σ) (hrw : RW pl V f n) (hi : i < n) : CN l D ar base yy_lr_take prog_5_method_4_code 4 (Option.some (Jvm.ClassFile.FieldType.object "SupplyGrid$Letter")) [] 2 27 0 0 [.ref (ad 2 0), .int (nI i)] σ (fun o σ' _ => o = .returned (some (.ref (ad 4 (pl ((f + i) % 100 + 1))))) ∧ Lay ar ad rg (tkp pl f i) (mu (mu V 54 0 (nI ((f + 1) % 100))) 55 0 (nI (n - 1))) M σ') := by
  refine mp_in (Nat.le_of_ble_eq_true rfl) ?_
  intro p e R s m below meth c x hfr hlo hce hsl hr hlk hin hex hG hB ls H hH0 hH hS hl
  have hl : lv_has ls 4 [(0, .ref (ad 2 0)), (1, .int (nI i))] := hl
  obtain ⟨hf, hf2, hn, hn2, hpl⟩ := id hrw
  refine lv_aload_n x.1 x.2.1 dd_lr_take_0 rfl (lv_at hl 0 rfl) ?_
  refine lv_iload_n x.1 x.2.1 dd_lr_take_1 rfl (lv_at hl 1 rfl) ?_
  refine mp_call x (wt_mv base) hG hB hl.1 (mp_invV (av := [.int (nI i)]) x hH (la2 hL) rfl rfl mn_lr_at mc_lr_at (Or.inl ww_542) ww_544 ww_23 rfl dd_lr_take_2) (kk_R_at (f := f) (j := i) hL (hf) (by omega) (by omega)) (Nat.le_trans (Nat.le_of_ble_eq_true rfl) hfr) (Nat.le_trans (Nat.le_of_ble_eq_true rfl) hlo) (Nat.le_trans (Nat.le_of_ble_eq_true rfl) hce) (Nat.le_trans (Nat.le_of_ble_eq_true rfl) hsl) hH hS (fun v σa t0 H locs hp90 ht0 hvm hzz hH hS => ?_) (fun _ _ _ _ _ hz _ _ _ _ _ => by cases hz.1)
  obtain ⟨ho, hσ⟩ := hp90
  cases ho
  rw [hσ] at hH
  refine W.eq (g2 := F0 m 5 ls [.ref (ad 4 (pl ((f + i) % 100 + 1)))]) rfl ?_
  refine lv_astore_n (lv' := [(2, .ref (ad 4 (pl ((f + i) % 100 + 1)))), (0, .ref (ad 2 0)), (1, .int (nI i))]) x.1 x.2.1 dd_lr_take_5 rfl hl (by decide) rfl (fun ls hl => ?_)
  refine lv_iload_n x.1 x.2.1 dd_lr_take_6 rfl (lv_at hl 2 rfl) ?_
  refine lv_istore_n (lv' := [(3, .int (nI i)), (2, .ref (ad 4 (pl ((f + i) % 100 + 1)))), (0, .ref (ad 2 0)), (1, .int (nI i))]) x.1 x.2.1 dd_lr_take_7 rfl hl (by decide) rfl (fun ls hl => ?_)
  have loop91 : ∀ (n92 : Nat) (j : Nat) (pm : Nat → Nat) (σ : mp_M), j ≤ i → (∀ q, q ≤ 100 → pm q < 101) → shf pm f j = shf pl f i → Lay ar ad rg pm V M σ → j < n92 → ∀ (ls : Array Slot) (H : Heap) (locs : List Loc), lv_has ls 4 [(0, .ref (ad 2 0)), (1, .int (nI i)), (2, .ref (ad 4 (pl ((f + i) % 100 + 1)))), (3, .int (nI j))] → HH D base σ H → va_S (mp_A base) s.heap H locs → W p l e R s m [.ref (ad 2 0), .int (nI i)].toArray below meth c H locs 0 0 (mp_Q below s 0 0 base (mp_P D cl_L base s (fun o σ' _ => o = .returned (some (.ref (ad 4 (pl ((f + i) % 100 + 1))))) ∧ Lay ar ad rg (tkp pl f i) (mu (mu V 54 0 (nI ((f + 1) % 100))) 55 0 (nI (n - 1))) M σ'))) (F0 m 8 ls []) := by
    intro n92
    induction n92 with
    | zero => intro j pm σ hj hpm heq hL hmz; exact absurd hmz (Nat.not_lt_zero _)
    | succ n92 ihloop91 =>
      intro j pm σ hj hpm heq hL hmz ls H locs hl hH hS
      refine lv_iload_n x.1 x.2.1 dd_lr_take_8 rfl (lv_at hl 3 rfl) ?_
      refine lv_if_le (tgt := 40) x.1 x.2.1 dd_lr_take_9 (by decide) (fun c93 => ?_) (fun c93 => ?_)
      · have c93 : j ≤ 0 := (cv_le (a := j) (b := 0) (by omega) (by omega)).mp c93
        obtain rfl : j = 0 := by omega
        have hpe : pm = shf pl f i := heq
        refine lv_aload_n x.1 x.2.1 dd_lr_take_40 rfl (lv_at hl 0 rfl) ?_
        refine mp_get x hH (la2 hL) fg_lr_11 rfl dd_lr_take_41 ?_
        refine lv_aload_n x.1 x.2.1 dd_lr_take_44 rfl (lv_at hl 0 rfl) ?_
        refine mp_get x hH (la2 hL) fg_lr_25 rfl dd_lr_take_45 ?_
        refine mn_top (w := nI f) (hf) ?_
        refine lv_aload_n x.1 x.2.1 dd_lr_take_48 rfl (lv_at hl 0 rfl) ?_
        refine mp_get x hH (la2 hL) fg_lr_22 rfl dd_lr_take_49 ?_
        refine kpl_st x hH hS hL (j := f) (Nat.lt_trans (hpm _ (by omega)) (by decide)) (by omega) dd_lr_take_52 (fun σ hL H locs hH hS => ?_)
        refine lv_aload_n x.1 x.2.1 dd_lr_take_53 rfl (lv_at hl 0 rfl) ?_
        refine lv_aload_n x.1 x.2.1 dd_lr_take_54 rfl (lv_at hl 2 rfl) ?_
        refine kt_put x hH hS hL (Nat.lt_trans (hpl _ (by omega)) (by decide)) fp_lr_22 rfl rfl dd_lr_take_55 (fun σ hL H locs hH hS => ?_)
        refine lv_aload_n x.1 x.2.1 dd_lr_take_58 rfl (lv_at hl 0 rfl) ?_
        refine lv_aload_n x.1 x.2.1 dd_lr_take_59 rfl (lv_at hl 0 rfl) ?_
        refine lv_iconst (v := nI 1) x.1 x.2.1 dd_lr_take_60 (by decide +kernel) ?_
        refine mp_call x (wt_mv base) hG hB hl.1 (mp_invV (av := [.int (nI 1)]) x hH (la2 hL) rfl rfl mn_lr_place mc_lr_place (Or.inl ww_502) ww_504 ww_17 rfl dd_lr_take_61) (kk_R_place (f := f) (j := 1) hL (hf) (by omega) (by omega)) (Nat.le_trans (Nat.le_of_ble_eq_true rfl) hfr) (Nat.le_trans (Nat.le_of_ble_eq_true rfl) hlo) (Nat.le_trans (Nat.le_of_ble_eq_true rfl) hce) (Nat.le_trans (Nat.le_of_ble_eq_true rfl) hsl) hH hS (fun v σa t0 H locs hp94 ht0 hvm hzz hH hS => ?_) (fun _ _ _ _ _ hz _ _ _ _ _ => by cases hz.1)
        obtain ⟨ho, hσ⟩ := hp94
        cases ho
        rw [hσ] at hH
        refine W.eq (g2 := F0 m 64 ls [.int (nI ((f + 1) % 100)), .ref (ad 2 0)]) rfl ?_
        refine kp_54 x hH hS hL fp_lr_25 dd_lr_take_64 (fun σ hL H locs hH hS => ?_)
        refine lv_aload_n x.1 x.2.1 dd_lr_take_67 rfl (lv_at hl 0 rfl) ?_
        refine lv_dup x.1 x.2.1 dd_lr_take_68 rfl ?_
        refine mp_get x hH (la2 hL) fg_lr_37 rfl dd_lr_take_69 ?_
        refine mn_top (w := nI n) ((mu_k (by decide)).trans (hn)) ?_
        refine lv_iconst (v := nI 1) x.1 x.2.1 dd_lr_take_72 (by decide +kernel) ?_
        refine lv_isub x.1 x.2.1 dd_lr_take_73 ?_
        refine mn_top (w := nI (n - 1)) (pk_sub (by omega)) ?_
        refine kp_55 x hH hS hL fp_lr_37 dd_lr_take_74 (fun σ hL H locs hH hS => ?_)
        refine lv_aload_n x.1 x.2.1 dd_lr_take_77 rfl (lv_at hl 2 rfl) ?_
        subst hpe
        exact mp_rr x hr hlk (by decide) (by decide) hH hS (fun _ => ⟨rfl, hL⟩) dd_lr_take_78
      · have c93 : ¬ (j ≤ 0) := fun h => c93 ((cv_le (a := j) (b := 0) (by omega) (by omega)).mpr h)
        refine lv_aload_n x.1 x.2.1 dd_lr_take_12 rfl (lv_at hl 0 rfl) ?_
        refine mp_get x hH (la2 hL) fg_lr_11 rfl dd_lr_take_13 ?_
        refine lv_aload_n x.1 x.2.1 dd_lr_take_16 rfl (lv_at hl 0 rfl) ?_
        refine lv_iload_n x.1 x.2.1 dd_lr_take_17 rfl (lv_at hl 3 rfl) ?_
        refine mp_call x (wt_mv base) hG hB hl.1 (mp_invV (av := [.int (nI j)]) x hH (la2 hL) rfl rfl mn_lr_place mc_lr_place (Or.inl ww_502) ww_504 ww_17 rfl dd_lr_take_18) (kk_R_place (f := f) (j := j) hL (hf) (by omega) (by omega)) (Nat.le_trans (Nat.le_of_ble_eq_true rfl) hfr) (Nat.le_trans (Nat.le_of_ble_eq_true rfl) hlo) (Nat.le_trans (Nat.le_of_ble_eq_true rfl) hce) (Nat.le_trans (Nat.le_of_ble_eq_true rfl) hsl) hH hS (fun v σa t0 H locs hp95 ht0 hvm hzz hH hS => ?_) (fun _ _ _ _ _ hz _ _ _ _ _ => by cases hz.1)
        obtain ⟨ho, hσ⟩ := hp95
        cases ho
        rw [hσ] at hH
        refine W.eq (g2 := F0 m 21 ls [.int (nI ((f + j) % 100)), .ref (ad 3 0)]) rfl ?_
        refine lv_aload_n x.1 x.2.1 dd_lr_take_21 rfl (lv_at hl 0 rfl) ?_
        refine mp_get x hH (la2 hL) fg_lr_11 rfl dd_lr_take_22 ?_
        refine lv_aload_n x.1 x.2.1 dd_lr_take_25 rfl (lv_at hl 0 rfl) ?_
        refine lv_iload_n x.1 x.2.1 dd_lr_take_26 rfl (lv_at hl 3 rfl) ?_
        refine lv_iconst (v := nI 1) x.1 x.2.1 dd_lr_take_27 (by decide +kernel) ?_
        refine lv_isub x.1 x.2.1 dd_lr_take_28 ?_
        refine mn_top (w := nI (j - 1)) (pk_sub (by omega)) ?_
        refine mp_call x (wt_mv base) hG hB hl.1 (mp_invV (av := [.int (nI (j - 1))]) x hH (la2 hL) rfl rfl mn_lr_place mc_lr_place (Or.inl ww_502) ww_504 ww_17 rfl dd_lr_take_29) (kk_R_place (f := f) (j := j - 1) hL (hf) (by omega) (by omega)) (Nat.le_trans (Nat.le_of_ble_eq_true rfl) hfr) (Nat.le_trans (Nat.le_of_ble_eq_true rfl) hlo) (Nat.le_trans (Nat.le_of_ble_eq_true rfl) hce) (Nat.le_trans (Nat.le_of_ble_eq_true rfl) hsl) hH hS (fun v σa t0 H locs hp96 ht0 hvm hzz hH hS => ?_) (fun _ _ _ _ _ hz _ _ _ _ _ => by cases hz.1)
        obtain ⟨ho, hσ⟩ := hp96
        cases ho
        rw [hσ] at hH
        refine W.eq (g2 := F0 m 32 ls [.int (nI ((f + (j - 1)) % 100)), .ref (ad 3 0), .int (nI ((f + j) % 100)), .ref (ad 3 0)]) rfl ?_
        refine kpl_ld x hH hL (j := (f + (j - 1)) % 100) (by omega) dd_lr_take_32 ?_
        refine kpl_st x hH hS hL (j := (f + j) % 100) (Nat.lt_trans (hpm _ (by omega)) (by decide)) (by omega) dd_lr_take_33 (fun σ hL H locs hH hS => ?_)
        refine lv_iinc (v := nI (j - 1)) (lv' := [(3, .int (nI (j - 1))), (0, .ref (ad 2 0)), (1, .int (nI i)), (2, .ref (ad 4 (pl ((f + i) % 100 + 1))))]) x.1 x.2.1 dd_lr_take_34 hl (k := 3) rfl (nI_dec (by omega)) (by decide) rfl (fun ls hl => ?_)
        refine lv_goto (tgt := 8) x.1 x.2.1 dd_lr_take_37 (by decide) ?_
        exact ihloop91 (j - 1) (va_up pm ((f + j) % 100 + 1) (pm ((f + (j - 1)) % 100 + 1))) _ (by omega) (up_lt1 hpm (hpm _ (by omega))) ((shf_s (by omega)).symm.trans heq) hL (by omega) ls H _ (lv_sub hl [1, 2, 3, 0] rfl) hH hS
  exact loop91 _ i pl _ (Nat.le_refl _) hpl rfl hL (Nat.lt_succ_self _) ls H _ (lv_sub hl [2, 3, 1, 0] rfl) hH hS
set_option maxRecDepth 100000 in
set_option maxHeartbeats 4000000 in
theorem kk_R_send {l : Launch} {D : va_G} {ar : Nat → ClassId} {base : Nat} {σ : mp_M} {ad : Nat → Nat → Nat} {rg : Nat → Bool} {pl : Nat → Nat} {V M : fV} {f n nc : Nat} {to : Int32} (hL : Lay ar ad rg pl V M σ) (hrw : RW pl V f n) (hc : V 52 101 = nI nc) (hc2 : nc ≤ 12) : CN l D ar base yy_lr_send prog_5_method_6_code 2 (Option.some Jvm.ClassFile.FieldType.boolean) [] 2 27 0 0 [.ref (ad 2 0), .int to] σ (fun o σ' _ => o = .returned (some (.int (if n < 100 then nI 1 else nI 0))) ∧ Lay ar ad rg pl (snd pl f n nc V to) M σ') := by
  refine mp_in (Nat.le_of_ble_eq_true rfl) ?_
  intro p e R s m below meth c x hfr hlo hce hsl hr hlk hin hex hG hB ls H hH0 hH hS hl
  have hl : lv_has ls 2 [(0, .ref (ad 2 0)), (1, .int to)] := hl
  obtain ⟨hf, hf2, hn, hn2, hpl⟩ := id hrw
  refine lv_aload_n x.1 x.2.1 dd_lr_send_0 rfl (lv_at hl 0 rfl) ?_
  refine lv_dup x.1 x.2.1 dd_lr_send_1 rfl ?_
  refine mp_get x hH (la2 hL) fg_lr_44 rfl dd_lr_send_2 ?_
  refine lv_iconst (v := nI 1) x.1 x.2.1 dd_lr_send_5 (by decide +kernel) ?_
  refine lv_iadd x.1 x.2.1 dd_lr_send_6 ?_
  refine kp_58 x hH hS hL fp_lr_44 dd_lr_send_7 (fun σ hL H locs hH hS => ?_)
  refine lv_aload_n x.1 x.2.1 dd_lr_send_10 rfl (lv_at hl 0 rfl) ?_
  refine mp_get x hH (la2 hL) fg_lr_37 rfl dd_lr_send_11 ?_
  refine mn_top (w := nI n) ((mu_k (by decide)).trans (hn)) ?_
  refine lv_bipush (v := nI 100) x.1 x.2.1 dd_lr_send_14 (by decide +kernel) ?_
  refine lv_icmp_lt (tgt := 31) x.1 x.2.1 dd_lr_send_16 (by decide) (fun c97 => ?_) (fun c97 => ?_)
  · have c97 : n < 100 := (cv_lt (a := n) (b := 100) (by omega) (by omega)).mp c97
    refine lv_aload_n x.1 x.2.1 dd_lr_send_31 rfl (lv_at hl 0 rfl) ?_
    refine mp_get x hH (la2 hL) fg_lr_18 rfl dd_lr_send_32 ?_
    refine lv_iload_n x.1 x.2.1 dd_lr_send_35 rfl (lv_at hl 1 rfl) ?_
    refine kp_46 x hH hS hL (by decide) fp_lr_50 dd_lr_send_36 (fun σ hL H locs hH hS => ?_)
    refine lv_aload_n x.1 x.2.1 dd_lr_send_39 rfl (lv_at hl 0 rfl) ?_
    refine mp_get x hH (la2 hL) fg_lr_11 rfl dd_lr_send_40 ?_
    refine lv_aload_n x.1 x.2.1 dd_lr_send_43 rfl (lv_at hl 0 rfl) ?_
    refine lv_aload_n x.1 x.2.1 dd_lr_send_44 rfl (lv_at hl 0 rfl) ?_
    refine mp_get x hH (la2 hL) fg_lr_37 rfl dd_lr_send_45 ?_
    refine mn_top (w := nI n) ((mu_k (by decide)).trans ((mu_k (by decide)).trans (hn))) ?_
    refine mp_call x (wt_mv base) hG hB hl.1 (mp_invV (av := [.int (nI n)]) x hH (la2 hL) rfl rfl mn_lr_place mc_lr_place (Or.inl ww_502) ww_504 ww_17 rfl dd_lr_send_48) (kk_R_place (f := f) (j := n) hL ((mu_k (by decide)).trans ((mu_k (by decide)).trans (hf))) (by omega) (by omega)) (Nat.le_trans (Nat.le_of_ble_eq_true rfl) hfr) (Nat.le_trans (Nat.le_of_ble_eq_true rfl) hlo) (Nat.le_trans (Nat.le_of_ble_eq_true rfl) hce) (Nat.le_trans (Nat.le_of_ble_eq_true rfl) hsl) hH hS (fun v σa t0 H locs hp98 ht0 hvm hzz hH hS => ?_) (fun _ _ _ _ _ hz _ _ _ _ _ => by cases hz.1)
    obtain ⟨ho, hσ⟩ := hp98
    cases ho
    rw [hσ] at hH
    refine W.eq (g2 := F0 m 51 ls [.int (nI ((f + n) % 100)), .ref (ad 3 0)]) rfl ?_
    refine kpl_ld x hH hL (j := (f + n) % 100) (by omega) dd_lr_send_51 ?_
    refine lv_aload_n x.1 x.2.1 dd_lr_send_52 rfl (lv_at hl 0 rfl) ?_
    refine mp_get x hH (la2 hL) fg_lr_18 rfl dd_lr_send_53 ?_
    refine mp_call x (wt_mv base) hG hB hl.1 (mp_invV (av := [.ref (ad 4 101)]) x hH (la4 hL (Nat.lt_trans (hpl _ (by omega)) (by decide))) rfl rfl mn_lt_become mc_lt_become (Or.inr ⟨_, ww_506⟩) ww_508 ww_18 rfl dd_lr_send_56) (kk_L_become (nc := nc) hL (Nat.lt_trans (hpl _ (by omega)) (by decide)) (by decide) (Nat.ne_of_gt (hpl _ (by omega))) ((mu_k (by decide)).trans ((mu_k (by decide)).trans (hc))) (by omega)) (Nat.le_trans (Nat.le_of_ble_eq_true rfl) hfr) (Nat.le_trans (Nat.le_of_ble_eq_true rfl) hlo) (Nat.le_trans (Nat.le_of_ble_eq_true rfl) hce) (Nat.le_trans (Nat.le_of_ble_eq_true rfl) hsl) hH hS (fun v σa t0 H locs hp99 ht0 hvm hzz hH hS => ?_) (fun _ _ _ _ _ hz _ _ _ _ _ => by cases hz.1)
    obtain ⟨ho, hL⟩ := hp99
    cases ho
    refine W.eq (g2 := F0 m 59 ls []) rfl ?_
    refine lv_aload_n x.1 x.2.1 dd_lr_send_59 rfl (lv_at hl 0 rfl) ?_
    refine lv_dup x.1 x.2.1 dd_lr_send_60 rfl ?_
    refine mp_get x hH (la2 hL) fg_lr_37 rfl dd_lr_send_61 ?_
    refine mn_top (w := nI n) ((slb_o (by omega) (by omega)).trans ((mu_k (by decide)).trans ((mu_k (by decide)).trans (hn)))) ?_
    refine lv_iconst (v := nI 1) x.1 x.2.1 dd_lr_send_64 (by decide +kernel) ?_
    refine lv_iadd x.1 x.2.1 dd_lr_send_65 ?_
    refine mn_top (w := nI (n + 1)) (nI_add _ _) ?_
    refine kp_55 x hH hS hL fp_lr_37 dd_lr_send_66 (fun σ hL H locs hH hS => ?_)
    refine lv_iconst (v := nI 1) x.1 x.2.1 dd_lr_send_69 (by decide +kernel) ?_
    exact mp_rz x hr (by decide) hlk (by decide) (by decide) hH hS (fun _ => ⟨(congrArg (fun z => Outcome.returned (some (.int z))) ((if_pos (by omega)).symm)), by unfold snd; rw [if_pos (by omega)]; exact hL⟩) dd_lr_send_70
  · have c97 : ¬ (n < 100) := fun h => c97 ((cv_lt (a := n) (b := 100) (by omega) (by omega)).mpr h)
    refine lv_aload_n x.1 x.2.1 dd_lr_send_19 rfl (lv_at hl 0 rfl) ?_
    refine lv_dup x.1 x.2.1 dd_lr_send_20 rfl ?_
    refine mp_get x hH (la2 hL) fg_lr_47 rfl dd_lr_send_21 ?_
    refine mn_top (w := V 56 0) (mu_k (by decide)) ?_
    refine lv_iconst (v := nI 1) x.1 x.2.1 dd_lr_send_24 (by decide +kernel) ?_
    refine lv_iadd x.1 x.2.1 dd_lr_send_25 ?_
    refine kp_56 x hH hS hL fp_lr_47 dd_lr_send_26 (fun σ hL H locs hH hS => ?_)
    refine lv_iconst (v := nI 0) x.1 x.2.1 dd_lr_send_29 (by decide +kernel) ?_
    exact mp_rz x hr (by decide) hlk (by decide) (by decide) hH hS (fun _ => ⟨(congrArg (fun z => Outcome.returned (some (.int z))) ((if_neg (by omega)).symm)), by unfold snd; rw [if_neg (by omega)]; exact hL⟩) dd_lr_send_30
def rpt (pl : Nat → Nat) (f n i nc : Nat) (V : fV) : fV := if n < 100 then mu (slb V (pl ((f + n) % 100 + 1)) (pl ((f + i) % 100 + 1)) nc) 55 0 (nI (n + 1)) else V
set_option maxRecDepth 100000 in
set_option maxHeartbeats 4000000 in
theorem kk_R_repeat {l : Launch} {D : va_G} {ar : Nat → ClassId} {base : Nat} {σ : mp_M} {ad : Nat → Nat → Nat} {rg : Nat → Bool} {pl : Nat → Nat} {V M : fV} {f n i nc : Nat} (hL : Lay ar ad rg pl V M σ) (hrw : RW pl V f n) (hi : i < n) (hne : n < 100 → pl ((f + i) % 100 + 1) ≠ pl ((f + n) % 100 + 1)) (hc : V 52 (pl ((f + i) % 100 + 1)) = nI nc) (hc2 : nc ≤ 12) : CN l D ar base yy_lr_repeat prog_5_method_5_code 2 (Option.some Jvm.ClassFile.FieldType.boolean) [] 2 28 0 0 [.ref (ad 2 0), .int (nI i)] σ (fun o σ' _ => o = .returned (some (.int (if n < 100 then nI 1 else nI 0))) ∧ Lay ar ad rg pl (rpt pl f n i nc V) M σ') := by
  refine mp_in (Nat.le_of_ble_eq_true rfl) ?_
  intro p e R s m below meth c x hfr hlo hce hsl hr hlk hin hex hG hB ls H hH0 hH hS hl
  have hl : lv_has ls 2 [(0, .ref (ad 2 0)), (1, .int (nI i))] := hl
  obtain ⟨hf, hf2, hn, hn2, hpl⟩ := id hrw
  refine lv_aload_n x.1 x.2.1 dd_lr_repeat_0 rfl (lv_at hl 0 rfl) ?_
  refine mp_get x hH (la2 hL) fg_lr_37 rfl dd_lr_repeat_1 ?_
  refine mn_top (w := nI n) (hn) ?_
  refine lv_bipush (v := nI 100) x.1 x.2.1 dd_lr_repeat_4 (by decide +kernel) ?_
  refine lv_icmp_lt (tgt := 11) x.1 x.2.1 dd_lr_repeat_6 (by decide) (fun c100 => ?_) (fun c100 => ?_)
  · have c100 : n < 100 := (cv_lt (a := n) (b := 100) (by omega) (by omega)).mp c100
    refine lv_aload_n x.1 x.2.1 dd_lr_repeat_11 rfl (lv_at hl 0 rfl) ?_
    refine mp_get x hH (la2 hL) fg_lr_11 rfl dd_lr_repeat_12 ?_
    refine lv_aload_n x.1 x.2.1 dd_lr_repeat_15 rfl (lv_at hl 0 rfl) ?_
    refine lv_aload_n x.1 x.2.1 dd_lr_repeat_16 rfl (lv_at hl 0 rfl) ?_
    refine mp_get x hH (la2 hL) fg_lr_37 rfl dd_lr_repeat_17 ?_
    refine mn_top (w := nI n) (hn) ?_
    refine mp_call x (wt_mv base) hG hB hl.1 (mp_invV (av := [.int (nI n)]) x hH (la2 hL) rfl rfl mn_lr_place mc_lr_place (Or.inl ww_502) ww_504 ww_17 rfl dd_lr_repeat_20) (kk_R_place (f := f) (j := n) hL (hf) (by omega) (by omega)) (Nat.le_trans (Nat.le_of_ble_eq_true rfl) hfr) (Nat.le_trans (Nat.le_of_ble_eq_true rfl) hlo) (Nat.le_trans (Nat.le_of_ble_eq_true rfl) hce) (Nat.le_trans (Nat.le_of_ble_eq_true rfl) hsl) hH hS (fun v σa t0 H locs hp101 ht0 hvm hzz hH hS => ?_) (fun _ _ _ _ _ hz _ _ _ _ _ => by cases hz.1)
    obtain ⟨ho, hσ⟩ := hp101
    cases ho
    rw [hσ] at hH
    refine W.eq (g2 := F0 m 23 ls [.int (nI ((f + n) % 100)), .ref (ad 3 0)]) rfl ?_
    refine kpl_ld x hH hL (j := (f + n) % 100) (by omega) dd_lr_repeat_23 ?_
    refine lv_aload_n x.1 x.2.1 dd_lr_repeat_24 rfl (lv_at hl 0 rfl) ?_
    refine lv_iload_n x.1 x.2.1 dd_lr_repeat_25 rfl (lv_at hl 1 rfl) ?_
    refine mp_call x (wt_mv base) hG hB hl.1 (mp_invV (av := [.int (nI i)]) x hH (la2 hL) rfl rfl mn_lr_at mc_lr_at (Or.inl ww_542) ww_544 ww_23 rfl dd_lr_repeat_26) (kk_R_at (f := f) (j := i) hL (hf) (by omega) (by omega)) (Nat.le_trans (Nat.le_of_ble_eq_true rfl) hfr) (Nat.le_trans (Nat.le_of_ble_eq_true rfl) hlo) (Nat.le_trans (Nat.le_of_ble_eq_true rfl) hce) (Nat.le_trans (Nat.le_of_ble_eq_true rfl) hsl) hH hS (fun v σa t0 H locs hp102 ht0 hvm hzz hH hS => ?_) (fun _ _ _ _ _ hz _ _ _ _ _ => by cases hz.1)
    obtain ⟨ho, hσ⟩ := hp102
    cases ho
    rw [hσ] at hH
    refine W.eq (g2 := F0 m 29 ls [.ref (ad 4 (pl ((f + i) % 100 + 1))), .ref (ad 4 (pl ((f + n) % 100 + 1)))]) rfl ?_
    refine mp_call x (wt_mv base) hG hB hl.1 (mp_invV (av := [.ref (ad 4 (pl ((f + i) % 100 + 1)))]) x hH (la4 hL (Nat.lt_trans (hpl _ (by omega)) (by decide))) rfl rfl mn_lt_become mc_lt_become (Or.inr ⟨_, ww_506⟩) ww_508 ww_18 rfl dd_lr_repeat_29) (kk_L_become (nc := nc) hL (Nat.lt_trans (hpl _ (by omega)) (by decide)) (Nat.lt_trans (hpl _ (by omega)) (by decide)) (hne (by omega)) (hc) (by omega)) (Nat.le_trans (Nat.le_of_ble_eq_true rfl) hfr) (Nat.le_trans (Nat.le_of_ble_eq_true rfl) hlo) (Nat.le_trans (Nat.le_of_ble_eq_true rfl) hce) (Nat.le_trans (Nat.le_of_ble_eq_true rfl) hsl) hH hS (fun v σa t0 H locs hp103 ht0 hvm hzz hH hS => ?_) (fun _ _ _ _ _ hz _ _ _ _ _ => by cases hz.1)
    obtain ⟨ho, hL⟩ := hp103
    cases ho
    refine W.eq (g2 := F0 m 32 ls []) rfl ?_
    refine lv_aload_n x.1 x.2.1 dd_lr_repeat_32 rfl (lv_at hl 0 rfl) ?_
    refine lv_dup x.1 x.2.1 dd_lr_repeat_33 rfl ?_
    refine mp_get x hH (la2 hL) fg_lr_37 rfl dd_lr_repeat_34 ?_
    refine mn_top (w := nI n) ((slb_o (by omega) (by omega)).trans (hn)) ?_
    refine lv_iconst (v := nI 1) x.1 x.2.1 dd_lr_repeat_37 (by decide +kernel) ?_
    refine lv_iadd x.1 x.2.1 dd_lr_repeat_38 ?_
    refine mn_top (w := nI (n + 1)) (nI_add _ _) ?_
    refine kp_55 x hH hS hL fp_lr_37 dd_lr_repeat_39 (fun σ hL H locs hH hS => ?_)
    refine lv_iconst (v := nI 1) x.1 x.2.1 dd_lr_repeat_42 (by decide +kernel) ?_
    exact mp_rz x hr (by decide) hlk (by decide) (by decide) hH hS (fun _ => ⟨(congrArg (fun z => Outcome.returned (some (.int z))) ((if_pos (by omega)).symm)), by unfold rpt; rw [if_pos (by omega)]; exact hL⟩) dd_lr_repeat_43
  · have c100 : ¬ (n < 100) := fun h => c100 ((cv_lt (a := n) (b := 100) (by omega) (by omega)).mpr h)
    refine lv_iconst (v := nI 0) x.1 x.2.1 dd_lr_repeat_9 (by decide +kernel) ?_
    exact mp_rz x hr (by decide) hlk (by decide) (by decide) hH hS (fun _ => ⟨(congrArg (fun z => Outcome.returned (some (.int z))) ((if_neg (by omega)).symm)), by unfold rpt; rw [if_neg (by omega)]; exact hL⟩) dd_lr_repeat_10
