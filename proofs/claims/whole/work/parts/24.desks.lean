/-! WHAT IS READ behind the steps of askings and letters. -/
theorem slb_o {V : fV} {t q nc k i : Nat} (h : k < 44 ∨ 52 < k ∨ i ≠ t) (h2 : k ≠ 1000 + t) : slb V t q nc k i = V k i := by
  unfold slb
  rw [bcm_o h2]
  repeat rw [mu_o (by omega)]
theorem swr_o {V : fV} {t : Nat} {x1 x2 x3 x4 x5 : Int32} {d nc k i : Nat} (h : k < 44 ∨ 52 < k ∨ i ≠ t) (h2 : k ≠ 1000 + t) : swr V t x1 x2 x3 x4 x5 d nc k i = V k i := by
  unfold swr
  rw [bcm_o h2]
  repeat rw [mu_o (by omega)]
theorem sfg_o {V : fV} {d k i : Nat} (h : k < 40 ∨ 43 < k ∨ i ≠ d) : sfg V d k i = V k i := by
  unfold sfg
  repeat rw [mu_o (by omega)]
theorem sen_o {V : fV} {d k i : Nat} (h : k < 36 ∨ 43 < k ∨ i ≠ d) : sen V d k i = V k i := by
  unfold sen
  rw [sfg_o (by omega)]
  repeat rw [mu_o (by omega)]
theorem sb2_o {V : fV} {d k i : Nat} (h : k < 36 ∨ 43 < k ∨ i ≠ d) : sb2 V d k i = V k i := by
  unfold sb2
  rw [sfg_o (by omega), mu_o (by omega)]
  split
  · rw [mu_o (by omega)]
  · rfl
theorem sca_o {V : fV} {d t k i : Nat} (h : k < 36 ∨ 43 < k ∨ i ≠ d) : sca V d t k i = V k i := by
  unfold sca
  split
  · repeat rw [mu_o (by omega)]
  · rw [mu_o (by omega)]
theorem shr_o {V : fV} {d t k i : Nat} (h : k < 36 ∨ 43 < k ∨ i ≠ d) : shr V d t k i = V k i := by
  unfold shr
  split
  · rw [mu_o (by omega)]
  · rfl
def mx (a b : Nat) : Nat := if a < b then b else a
theorem nI_mx {a b : Nat} (ha : a < 2 ^ 31) (hb : b < 2 ^ 31) : (if nI a < nI b then nI b else nI a) = nI (mx a b) := by
  unfold mx
  by_cases h : a < b
  · rw [if_pos h, if_pos ((nI_ltI ha hb).mpr h)]
  · rw [if_neg h, if_neg (fun q => h ((nI_ltI ha hb).mp q))]
theorem mx_lt {a b c : Nat} (ha : a < c) (hb : b < c) : mx a b < c := by
  unfold mx
  split <;> assumption
def nrd (ab sp : Nat) : Nat := mx 1 (if ab < sp then 0 else (ab - sp) / 25 + 1)
def nxt (ab sp : Nat) : Nat := if nrd ab sp ≤ 1000 then nrd ab sp * 25 + sp else 0
theorem nrd_lt {ab sp : Nat} (h : ab < 2 ^ 30) : nrd ab sp < 2 ^ 31 := by
  unfold nrd
  refine mx_lt (by decide) ?_
  split <;> omega
theorem nI_dec {j : Nat} (h : 0 < j) : nI j + Int32.ofInt (-1) = nI (j - 1) := by
  have h2 : j = j - 1 + 1 := by omega
  rw [h2]
  exact pk_m1 _
/-- the places move one on, below the i-th letter's -/
def shf (pl : Nat → Nat) (f : Nat) : Nat → Nat → Nat
  | 0 => pl
  | j + 1 => shf (va_up pl ((f + (j + 1)) % 100 + 1) (pl ((f + j) % 100 + 1))) f j
theorem shf_s {pl : Nat → Nat} {f j : Nat} (h : 0 < j) : shf pl f j = shf (va_up pl ((f + j) % 100 + 1) (pl ((f + (j - 1)) % 100 + 1))) f (j - 1) := by
  cases j with
  | zero => omega
  | succ j => rfl
def tkp (pl : Nat → Nat) (f i : Nat) : Nat → Nat := va_up (va_up (shf pl f i) (f + 1) (shf pl f i 0)) 0 (pl ((f + i) % 100 + 1))
theorem up_lt {pl : Nat → Nat} {a b : Nat} (h : ∀ q, q ≤ 100 → pl q < 102) (hb : b < 102) : ∀ q, q ≤ 100 → va_up pl a b q < 102 := by
  intro q hq
  unfold va_up
  split
  · exact hb
  · exact h q hq
set_option maxRecDepth 100000 in
set_option maxHeartbeats 4000000 in
theorem kk_D_open {l : Launch} {D : va_G} {ar : Nat → ClassId} {base : Nat} {σ : mp_M} {ad : Nat → Nat → Nat} {rg : Nat → Bool} {pl : Nat → Nat} {V M : fV} {d nc : Nat} (hL : Lay ar ad rg pl V M σ) (hd : dk rg d) (hc : V 34 d = nI nc) : CN l D ar base yy_dk_openSupply prog_3_method_2_code 1 (Option.some Jvm.ClassFile.FieldType.int) [] 0 0 0 0 [.ref (ad 9 d)] σ (fun o σ' _ => o = .returned (some (.int (nI (nc + 1)))) ∧ σ' = σ) := by
  refine mp_in (Nat.le_of_ble_eq_true rfl) ?_
  intro p e R s m below meth c x hfr hlo hce hsl hr hlk hin hex hG hB ls H hH0 hH hS hl
  have hl : lv_has ls 1 [(0, .ref (ad 9 d))] := hl
  refine lv_aload_n x.1 x.2.1 dd_dk_openSupply_0 rfl (lv_at hl 0 rfl) ?_
  refine mp_get x hH (la9 hL hd) fg_dk_21 rfl dd_dk_openSupply_1 ?_
  refine mp_get x hH (la10 hL hd) fg_dk_44 rfl dd_dk_openSupply_4 ?_
  refine mn_top (w := nI nc) (hc) ?_
  refine lv_iconst (v := nI 1) x.1 x.2.1 dd_dk_openSupply_7 (by decide +kernel) ?_
  refine lv_iadd x.1 x.2.1 dd_dk_openSupply_8 ?_
  refine mn_top (w := nI (nc + 1)) (nI_add _ _) ?_
  exact mp_ri x hr hlk (by decide) (by decide) hH hS (fun _ => ⟨rfl, rfl⟩) dd_dk_openSupply_9
def son (V : fV) (d : Nat) : fV := sen (mu (mu (mu V 30 d (nI 0)) 31 d (nI 0)) 32 d (-1)) d
theorem son_o {V : fV} {d k i : Nat} (h : k < 30 ∨ 43 < k ∨ i ≠ d) : son V d k i = V k i := by
  unfold son
  rw [sen_o (by omega)]
  repeat rw [mu_o (by omega)]
set_option maxRecDepth 100000 in
set_option maxHeartbeats 4000000 in
theorem kk_D_openNext {l : Launch} {D : va_G} {ar : Nat → ClassId} {base : Nat} {σ : mp_M} {ad : Nat → Nat → Nat} {rg : Nat → Bool} {pl : Nat → Nat} {V M : fV} {d : Nat} (hL : Lay ar ad rg pl V M σ) (hd : dk rg d) : CN l D ar base yy_dk_openNext prog_3_method_5_code 1 (Option.none : Option Jvm.ClassFile.FieldType) [] 2 24 0 0 [.ref (ad 9 d)] σ (fun o σ' _ => o = .returned none ∧ Lay ar ad rg pl (son V d) M σ') := by
  refine mp_in (Nat.le_of_ble_eq_true rfl) ?_
  intro p e R s m below meth c x hfr hlo hce hsl hr hlk hin hex hG hB ls H hH0 hH hS hl
  have hl : lv_has ls 1 [(0, .ref (ad 9 d))] := hl
  refine lv_aload_n x.1 x.2.1 dd_dk_openNext_0 rfl (lv_at hl 0 rfl) ?_
  refine lv_iconst (v := nI 0) x.1 x.2.1 dd_dk_openNext_1 (by decide +kernel) ?_
  refine kp_30 x hH hS hL hd fp_dk_32 dd_dk_openNext_2 (fun σ hL H locs hH hS => ?_)
  refine lv_aload_n x.1 x.2.1 dd_dk_openNext_5 rfl (lv_at hl 0 rfl) ?_
  refine lv_iconst (v := nI 0) x.1 x.2.1 dd_dk_openNext_6 (by decide +kernel) ?_
  refine kp_31 x hH hS hL hd fp_dk_35 dd_dk_openNext_7 (fun σ hL H locs hH hS => ?_)
  refine lv_aload_n x.1 x.2.1 dd_dk_openNext_10 rfl (lv_at hl 0 rfl) ?_
  refine lv_iconst (v := (-1)) x.1 x.2.1 dd_dk_openNext_11 (by decide +kernel) ?_
  refine kp_32 x hH hS hL hd fp_dk_38 dd_dk_openNext_12 (fun σ hL H locs hH hS => ?_)
  refine lv_aload_n x.1 x.2.1 dd_dk_openNext_15 rfl (lv_at hl 0 rfl) ?_
  refine mp_get x hH (la9 hL hd) fg_dk_28 rfl dd_dk_openNext_16 ?_
  refine mp_call x (wt_mv base) hG hB hl.1 (mp_invV (av := []) x hH (la12 hL hd) rfl rfl mn_ak_end mc_ak_end (Or.inr ⟨_, ww_566⟩) ww_111 ww_0 rfl dd_dk_openNext_19) (kk_A_end hL hd) (Nat.le_trans (Nat.le_of_ble_eq_true rfl) hfr) (Nat.le_trans (Nat.le_of_ble_eq_true rfl) hlo) (Nat.le_trans (Nat.le_of_ble_eq_true rfl) hce) (Nat.le_trans (Nat.le_of_ble_eq_true rfl) hsl) hH hS (fun v σa t0 H locs hp67 ht0 hvm hzz hH hS => ?_) (fun _ _ _ _ _ hz _ _ _ _ _ => by cases hz.1)
  obtain ⟨ho, hL⟩ := hp67
  cases ho
  refine W.eq (g2 := F0 m 22 ls []) rfl ?_
  exact mp_rv x hr hlk (by decide) (by decide) hH hS (fun _ => ⟨rfl, hL⟩) dd_dk_openNext_22
set_option maxRecDepth 100000 in
set_option maxHeartbeats 4000000 in
theorem kk_D_learn {l : Launch} {D : va_G} {ar : Nat → ClassId} {base : Nat} {σ : mp_M} {ad : Nat → Nat → Nat} {rg : Nat → Bool} {pl : Nat → Nat} {V M : fV} {d nc : Nat} {k : Int32} (hL : Lay ar ad rg pl V M σ) (hd : dk rg d) (hc : V 34 d = nI nc) (hc2 : nc < 12) : CN l D ar base yy_dk_learn prog_3_method_4_code 2 (Option.none : Option Jvm.ClassFile.FieldType) [] 3 36 0 0 [.ref (ad 9 d), .int k] σ (fun o σ' _ => o = .returned none ∧ Lay ar ad rg pl (son (mu (mu V (100 + d) nc k) 34 d (nI (nc + 1))) d) M σ') := by
  refine mp_in (Nat.le_of_ble_eq_true rfl) ?_
  intro p e R s m below meth c x hfr hlo hce hsl hr hlk hin hex hG hB ls H hH0 hH hS hl
  have hl : lv_has ls 2 [(0, .ref (ad 9 d)), (1, .int k)] := hl
  refine lv_aload_n x.1 x.2.1 dd_dk_learn_0 rfl (lv_at hl 0 rfl) ?_
  refine mp_get x hH (la9 hL hd) fg_dk_21 rfl dd_dk_learn_1 ?_
  refine lv_iload_n x.1 x.2.1 dd_dk_learn_4 rfl (lv_at hl 1 rfl) ?_
  refine mp_call x (wt_mv base) hG hB hl.1 (mp_invV (av := [.int k]) x hH (la10 hL hd) rfl rfl mn_pr_add mc_pr_add (Or.inr ⟨_, ww_598⟩) ww_560 ww_27 rfl dd_dk_learn_5) (kk_pr_add (nc := nc) hL hd (hc) (by omega)) (Nat.le_trans (Nat.le_of_ble_eq_true rfl) hfr) (Nat.le_trans (Nat.le_of_ble_eq_true rfl) hlo) (Nat.le_trans (Nat.le_of_ble_eq_true rfl) hce) (Nat.le_trans (Nat.le_of_ble_eq_true rfl) hsl) hH hS (fun v σa t0 H locs hp68 ht0 hvm hzz hH hS => ?_) (fun _ _ _ _ _ hz _ _ _ _ _ => by cases hz.1)
  obtain ⟨ho, hL⟩ := hp68
  cases ho
  refine W.eq (g2 := F0 m 8 ls []) rfl ?_
  refine lv_aload_n x.1 x.2.1 dd_dk_learn_8 rfl (lv_at hl 0 rfl) ?_
  refine mp_call x (wt_mv base) hG hB hl.1 (mp_invV (av := []) x hH (la9 hL hd) rfl rfl mn_dk_openNext mc_dk_openNext (Or.inl ww_562) ww_564 ww_28 rfl dd_dk_learn_9) (kk_D_openNext hL hd) (Nat.le_trans (Nat.le_of_ble_eq_true rfl) hfr) (Nat.le_trans (Nat.le_of_ble_eq_true rfl) hlo) (Nat.le_trans (Nat.le_of_ble_eq_true rfl) hce) (Nat.le_trans (Nat.le_of_ble_eq_true rfl) hsl) hH hS (fun v σa t0 H locs hp69 ht0 hvm hzz hH hS => ?_) (fun _ _ _ _ _ hz _ _ _ _ _ => by cases hz.1)
  obtain ⟨ho, hL⟩ := hp69
  cases ho
  refine W.eq (g2 := F0 m 12 ls []) rfl ?_
  exact mp_rv x hr hlk (by decide) (by decide) hH hS (fun _ => ⟨rfl, hL⟩) dd_dk_learn_12
def sla (V : fV) (d t nc n2 : Nat) : fV := if nc < n2 then son (amg V d t nc (n2 - nc)) d else V
set_option maxRecDepth 100000 in
set_option maxHeartbeats 4000000 in
theorem kk_D_learnAll {l : Launch} {D : va_G} {ar : Nat → ClassId} {base : Nat} {σ : mp_M} {ad : Nat → Nat → Nat} {rg : Nat → Bool} {pl : Nat → Nat} {V M : fV} {d t nc n2 : Nat} (hL : Lay ar ad rg pl V M σ) (hd : dk rg d) (ht : t < 102) (hc : V 34 d = nI nc) (hc3 : V 52 t = nI n2) (hc2 : nc ≤ 12) (hc4 : n2 ≤ 12) : CN l D ar base yy_dk_learnAll prog_3_method_3_code 2 (Option.none : Option Jvm.ClassFile.FieldType) [] 3 36 0 0 [.ref (ad 9 d), .ref (ad 5 t)] σ (fun o σ' _ => o = .returned none ∧ Lay ar ad rg pl (sla V d t nc n2) M σ') := by
  refine mp_in (Nat.le_of_ble_eq_true rfl) ?_
  intro p e R s m below meth c x hfr hlo hce hsl hr hlk hin hex hG hB ls H hH0 hH hS hl
  have hl : lv_has ls 2 [(0, .ref (ad 9 d)), (1, .ref (ad 5 t))] := hl
  refine lv_aload_n x.1 x.2.1 dd_dk_learnAll_0 rfl (lv_at hl 1 rfl) ?_
  refine mp_get x hH (la5 hL ht) fg_dk_44 rfl dd_dk_learnAll_1 ?_
  refine mn_top (w := nI n2) (hc3) ?_
  refine lv_aload_n x.1 x.2.1 dd_dk_learnAll_4 rfl (lv_at hl 0 rfl) ?_
  refine mp_get x hH (la9 hL hd) fg_dk_21 rfl dd_dk_learnAll_5 ?_
  refine mp_get x hH (la10 hL hd) fg_dk_44 rfl dd_dk_learnAll_8 ?_
  refine mn_top (w := nI nc) (hc) ?_
  refine lv_icmp_le (tgt := 26) x.1 x.2.1 dd_dk_learnAll_11 (by decide) (fun c70 => ?_) (fun c70 => ?_)
  · have c70 : n2 ≤ nc := (cv_le (a := n2) (b := nc) (by omega) (by omega)).mp c70
    exact mp_rv x hr hlk (by decide) (by decide) hH hS (fun _ => ⟨rfl, by unfold sla; rw [if_neg (by omega)]; exact hL⟩) dd_dk_learnAll_26
  · have c70 : ¬ (n2 ≤ nc) := fun h => c70 ((cv_le (a := n2) (b := nc) (by omega) (by omega)).mpr h)
    refine lv_aload_n x.1 x.2.1 dd_dk_learnAll_14 rfl (lv_at hl 0 rfl) ?_
    refine mp_get x hH (la9 hL hd) fg_dk_21 rfl dd_dk_learnAll_15 ?_
    refine lv_aload_n x.1 x.2.1 dd_dk_learnAll_18 rfl (lv_at hl 1 rfl) ?_
    refine mp_call x (wt_mv base) hG hB hl.1 (mp_invV (av := [.ref (ad 5 t)]) x hH (la10 hL hd) rfl rfl mn_pr_addMissing mc_pr_addMissing (Or.inr ⟨_, ww_554⟩) ww_556 ww_26 rfl dd_dk_learnAll_19) (kk_pr_addMissing (nc := nc) (n2 := n2) hL hd ht (hc) (hc3) (by omega) (by omega)) (Nat.le_trans (Nat.le_of_ble_eq_true rfl) hfr) (Nat.le_trans (Nat.le_of_ble_eq_true rfl) hlo) (Nat.le_trans (Nat.le_of_ble_eq_true rfl) hce) (Nat.le_trans (Nat.le_of_ble_eq_true rfl) hsl) hH hS (fun v σa t0 H locs hp71 ht0 hvm hzz hH hS => ?_) (fun _ _ _ _ _ hz _ _ _ _ _ => by cases hz.1)
    obtain ⟨ho, hL⟩ := hp71
    cases ho
    refine W.eq (g2 := F0 m 22 ls []) rfl ?_
    refine lv_aload_n x.1 x.2.1 dd_dk_learnAll_22 rfl (lv_at hl 0 rfl) ?_
    refine mp_call x (wt_mv base) hG hB hl.1 (mp_invV (av := []) x hH (la9 hL hd) rfl rfl mn_dk_openNext mc_dk_openNext (Or.inl ww_562) ww_564 ww_28 rfl dd_dk_learnAll_23) (kk_D_openNext hL hd) (Nat.le_trans (Nat.le_of_ble_eq_true rfl) hfr) (Nat.le_trans (Nat.le_of_ble_eq_true rfl) hlo) (Nat.le_trans (Nat.le_of_ble_eq_true rfl) hce) (Nat.le_trans (Nat.le_of_ble_eq_true rfl) hsl) hH hS (fun v σa t0 H locs hp72 ht0 hvm hzz hH hS => ?_) (fun _ _ _ _ _ hz _ _ _ _ _ => by cases hz.1)
    obtain ⟨ho, hL⟩ := hp72
    cases ho
    refine W.eq (g2 := F0 m 26 ls []) rfl ?_
    exact mp_rv x hr hlk (by decide) (by decide) hH hS (fun _ => ⟨rfl, by unfold sla; rw [if_pos (by omega)]; exact hL⟩) dd_dk_learnAll_26
set_option maxRecDepth 100000 in
set_option maxHeartbeats 4000000 in
theorem kk_D_next {l : Launch} {D : va_G} {ar : Nat → ClassId} {base : Nat} {σ : mp_M} {ad : Nat → Nat → Nat} {rg : Nat → Bool} {pl : Nat → Nat} {V M : fV} {d g pr rf sp : Nat} (hL : Lay ar ad rg pl V M σ) (hd : dk rg d) (h1 : V 33 d = nI g) (h2 : V 30 d = nI pr) (h3 : V 41 d = nI rf) (h4 : V 63 d = nI sp) (hg : g < 2 ^ 30) (hp : pr < 2 ^ 30) (hr9 : rf < 2 ^ 30) (hsp : sp < 25) : CN l D ar base yy_dk_nextNumber prog_3_method_6_code 3 (Option.some Jvm.ClassFile.FieldType.int) [] 1 15 0 0 [.ref (ad 9 d)] σ (fun o σ' _ => o = .returned (some (.int (nI (nxt (mx g (mx pr rf)) sp)))) ∧ σ' = σ) := by
  refine mp_in (Nat.le_of_ble_eq_true rfl) ?_
  intro p e R s m below meth c x hfr hlo hce hsl hr hlk hin hex hG hB ls H hH0 hH hS hl
  have hl : lv_has ls 3 [(0, .ref (ad 9 d))] := hl
  refine lv_aload_n x.1 x.2.1 dd_dk_nextNumber_0 rfl (lv_at hl 0 rfl) ?_
  refine mp_get x hH (la9 hL hd) fg_dk_41 rfl dd_dk_nextNumber_1 ?_
  refine mn_top (w := nI g) (h1) ?_
  refine lv_aload_n x.1 x.2.1 dd_dk_nextNumber_4 rfl (lv_at hl 0 rfl) ?_
  refine mp_get x hH (la9 hL hd) fg_dk_32 rfl dd_dk_nextNumber_5 ?_
  refine mn_top (w := nI pr) (h2) ?_
  refine lv_aload_n x.1 x.2.1 dd_dk_nextNumber_8 rfl (lv_at hl 0 rfl) ?_
  refine mp_get x hH (la9 hL hd) fg_dk_28 rfl dd_dk_nextNumber_9 ?_
  refine mp_get x hH (la12 hL hd) fg_dk_61 rfl dd_dk_nextNumber_12 ?_
  refine mn_top (w := nI rf) (h3) ?_
  refine mp_call x (wt_mv base) hG hB hl.1 (mp_invS (av := [.int (nI pr), .int (nI rf)]) x mn_jm_max mc_jm_max (Or.inl ww_475) ww_476 ww_67 rfl dd_dk_nextNumber_15) (kk_jm_max ) (Nat.le_trans (Nat.le_of_ble_eq_true rfl) hfr) (Nat.le_trans (Nat.le_of_ble_eq_true rfl) hlo) (Nat.le_trans (Nat.le_of_ble_eq_true rfl) hce) (Nat.le_trans (Nat.le_of_ble_eq_true rfl) hsl) hH hS (fun v σa t0 H locs hp73 ht0 hvm hzz hH hS => ?_) (fun _ _ _ _ _ hz _ _ _ _ _ => by cases hz.1)
  obtain ⟨ho, hσ⟩ := hp73
  cases ho
  rw [hσ] at hH
  refine W.eq (g2 := F0 m 18 ls [.int (if nI pr < nI rf then nI rf else nI pr), .int (nI g)]) rfl ?_
  refine mn_top (w := nI (mx pr rf)) (nI_mx (by omega) (by omega)) ?_
  refine mp_call x (wt_mv base) hG hB hl.1 (mp_invS (av := [.int (nI g), .int (nI (mx pr rf))]) x mn_jm_max mc_jm_max (Or.inl ww_475) ww_476 ww_67 rfl dd_dk_nextNumber_18) (kk_jm_max ) (Nat.le_trans (Nat.le_of_ble_eq_true rfl) hfr) (Nat.le_trans (Nat.le_of_ble_eq_true rfl) hlo) (Nat.le_trans (Nat.le_of_ble_eq_true rfl) hce) (Nat.le_trans (Nat.le_of_ble_eq_true rfl) hsl) hH hS (fun v σa t0 H locs hp74 ht0 hvm hzz hH hS => ?_) (fun _ _ _ _ _ hz _ _ _ _ _ => by cases hz.1)
  obtain ⟨ho, hσ⟩ := hp74
  cases ho
  rw [hσ] at hH
  refine W.eq (g2 := F0 m 21 ls [.int (if nI g < nI (mx pr rf) then nI (mx pr rf) else nI g)]) rfl ?_
  refine mn_top (w := nI (mx g (mx pr rf))) (nI_mx (by omega) (Nat.lt_trans (mx_lt hp hr9) (by decide))) ?_
  refine lv_istore_n (lv' := [(1, .int (nI (mx g (mx pr rf)))), (0, .ref (ad 9 d))]) x.1 x.2.1 dd_dk_nextNumber_21 rfl hl (by decide) rfl (fun ls hl => ?_)
  refine lv_iconst (v := nI 1) x.1 x.2.1 dd_dk_nextNumber_22 (by decide +kernel) ?_
  refine lv_iload_n x.1 x.2.1 dd_dk_nextNumber_23 rfl (lv_at hl 0 rfl) ?_
  refine lv_aload_n x.1 x.2.1 dd_dk_nextNumber_24 rfl (lv_at hl 1 rfl) ?_
  refine mp_get x hH (la9 hL hd) fg_dk_9 rfl dd_dk_nextNumber_25 ?_
  refine mn_top (w := nI sp) (h4) ?_
  have hab : mx g (mx pr rf) < 2 ^ 30 := mx_lt hg (mx_lt hp hr9)
  have hnr := nrd_lt (sp := sp) hab
  generalize hae : mx g (mx pr rf) = ab at *
  rcases Nat.lt_or_ge ab sp with hlt | hge
  · obtain ⟨k, hk, hk0, hke⟩ := fd_sub hlt (by omega)
    refine lv_isub x.1 x.2.1 dd_dk_nextNumber_28 ?_
    refine mn_top (w := - nI k) hke ?_
    refine lv_bipush (v := nI 25) x.1 x.2.1 dd_dk_nextNumber_29 (by decide +kernel) ?_
    refine mp_call x (wt_mv base) hG hB hl.1 (mp_invS (av := [.int (- nI k), .int (nI 25)]) x mn_jm_floorDiv mc_jm_floorDiv (Or.inl ww_478) ww_479 ww_67 rfl dd_dk_nextNumber_31) (kk_jm_fdN hk hk0) (Nat.le_trans (Nat.le_of_ble_eq_true rfl) hfr) (Nat.le_trans (Nat.le_of_ble_eq_true rfl) hlo) (Nat.le_trans (Nat.le_of_ble_eq_true rfl) hce) (Nat.le_trans (Nat.le_of_ble_eq_true rfl) hsl) hH hS (fun v σa t0 H locs hp75 ht0 hvm hzz hH hS => ?_) (fun _ _ _ _ _ hz _ _ _ _ _ => by cases hz.1)
    obtain ⟨ho, hσ⟩ := hp75
    cases ho
    rw [hσ] at hH
    refine W.eq (g2 := F0 m 34 ls [.int (-1), .int (nI 1)]) rfl ?_
    refine lv_iconst (v := nI 1) x.1 x.2.1 dd_dk_nextNumber_34 (by decide +kernel) ?_
    refine lv_iadd x.1 x.2.1 dd_dk_nextNumber_35 ?_
    refine mn_top (w := nI 0) (by decide +kernel) ?_
    refine mp_call x (wt_mv base) hG hB hl.1 (mp_invS (av := [.int (nI 1), .int (nI 0)]) x mn_jm_max mc_jm_max (Or.inl ww_475) ww_476 ww_67 rfl dd_dk_nextNumber_36) (kk_jm_max ) (Nat.le_trans (Nat.le_of_ble_eq_true rfl) hfr) (Nat.le_trans (Nat.le_of_ble_eq_true rfl) hlo) (Nat.le_trans (Nat.le_of_ble_eq_true rfl) hce) (Nat.le_trans (Nat.le_of_ble_eq_true rfl) hsl) hH hS (fun v σa t0 H locs hp76 ht0 hvm hzz hH hS => ?_) (fun _ _ _ _ _ hz _ _ _ _ _ => by cases hz.1)
    obtain ⟨ho, hσ⟩ := hp76
    cases ho
    rw [hσ] at hH
    refine W.eq (g2 := F0 m 39 ls [.int (if nI 1 < nI 0 then nI 0 else nI 1)]) rfl ?_
    refine mn_top (w := nI (nrd ab sp)) ((nI_mx (by omega) (by omega)).trans (by rw [nrd, if_pos hlt])) ?_
    refine lv_istore_n (lv' := [(2, .int (nI (nrd ab sp))), (1, .int (nI ab)), (0, .ref (ad 9 d))]) x.1 x.2.1 dd_dk_nextNumber_39 rfl hl (by decide) rfl (fun ls hl => ?_)
    refine lv_iload_n x.1 x.2.1 dd_dk_nextNumber_40 rfl (lv_at hl 0 rfl) ?_
    refine lv_sipush (v := nI 1000) x.1 x.2.1 dd_dk_nextNumber_41 (by decide +kernel) ?_
    refine lv_icmp_le (tgt := 51) x.1 x.2.1 dd_dk_nextNumber_44 (by decide) (fun c77 => ?_) (fun c77 => ?_)
    · have c77 : nrd ab sp ≤ 1000 := (cv_le (a := nrd ab sp) (b := 1000) (by omega) (by omega)).mp c77
      refine lv_iload_n x.1 x.2.1 dd_dk_nextNumber_51 rfl (lv_at hl 0 rfl) ?_
      refine lv_bipush (v := nI 25) x.1 x.2.1 dd_dk_nextNumber_52 (by decide +kernel) ?_
      refine lv_imul x.1 x.2.1 dd_dk_nextNumber_54 ?_
      refine mn_top (w := nI ((nrd ab sp) * 25)) (pk_mul _ _) ?_
      refine lv_aload_n x.1 x.2.1 dd_dk_nextNumber_55 rfl (lv_at hl 2 rfl) ?_
      refine mp_get x hH (la9 hL hd) fg_dk_9 rfl dd_dk_nextNumber_56 ?_
      refine mn_top (w := nI sp) (h4) ?_
      refine lv_iadd x.1 x.2.1 dd_dk_nextNumber_59 ?_
      refine mn_top (w := nI ((nrd ab sp) * 25 + sp)) (nI_add _ _) ?_
      exact mp_ri x hr hlk (by decide) (by decide) hH hS (fun _ => ⟨(congrArg (fun z => Outcome.returned (some (.int z))) (by rw [nxt, if_pos c77])), rfl⟩) dd_dk_nextNumber_60
    · have c77 : ¬ (nrd ab sp ≤ 1000) := fun h => c77 ((cv_le (a := nrd ab sp) (b := 1000) (by omega) (by omega)).mpr h)
      refine lv_iconst (v := nI 0) x.1 x.2.1 dd_dk_nextNumber_47 (by decide +kernel) ?_
      refine lv_goto (tgt := 60) x.1 x.2.1 dd_dk_nextNumber_48 (by decide) ?_
      exact mp_ri x hr hlk (by decide) (by decide) hH hS (fun _ => ⟨(congrArg (fun z => Outcome.returned (some (.int z))) (by rw [nxt, if_neg c77])), rfl⟩) dd_dk_nextNumber_60
  · refine lv_isub x.1 x.2.1 dd_dk_nextNumber_28 ?_
    refine mn_top (w := nI (ab - sp)) (pk_sub (by omega)) ?_
    refine lv_bipush (v := nI 25) x.1 x.2.1 dd_dk_nextNumber_29 (by decide +kernel) ?_
    refine mp_call x (wt_mv base) hG hB hl.1 (mp_invS (av := [.int (nI (ab - sp)), .int (nI 25)]) x mn_jm_floorDiv mc_jm_floorDiv (Or.inl ww_478) ww_479 ww_67 rfl dd_dk_nextNumber_31) (kk_jm_fdP (n := ab - sp) (by omega)) (Nat.le_trans (Nat.le_of_ble_eq_true rfl) hfr) (Nat.le_trans (Nat.le_of_ble_eq_true rfl) hlo) (Nat.le_trans (Nat.le_of_ble_eq_true rfl) hce) (Nat.le_trans (Nat.le_of_ble_eq_true rfl) hsl) hH hS (fun v σa t0 H locs hp78 ht0 hvm hzz hH hS => ?_) (fun _ _ _ _ _ hz _ _ _ _ _ => by cases hz.1)
    obtain ⟨ho, hσ⟩ := hp78
    cases ho
    rw [hσ] at hH
    refine W.eq (g2 := F0 m 34 ls [.int (nI ((ab - sp) / 25)), .int (nI 1)]) rfl ?_
    refine lv_iconst (v := nI 1) x.1 x.2.1 dd_dk_nextNumber_34 (by decide +kernel) ?_
    refine lv_iadd x.1 x.2.1 dd_dk_nextNumber_35 ?_
    refine mn_top (w := nI ((ab - sp) / 25 + 1)) (nI_add _ _) ?_
    refine mp_call x (wt_mv base) hG hB hl.1 (mp_invS (av := [.int (nI 1), .int (nI ((ab - sp) / 25 + 1))]) x mn_jm_max mc_jm_max (Or.inl ww_475) ww_476 ww_67 rfl dd_dk_nextNumber_36) (kk_jm_max ) (Nat.le_trans (Nat.le_of_ble_eq_true rfl) hfr) (Nat.le_trans (Nat.le_of_ble_eq_true rfl) hlo) (Nat.le_trans (Nat.le_of_ble_eq_true rfl) hce) (Nat.le_trans (Nat.le_of_ble_eq_true rfl) hsl) hH hS (fun v σa t0 H locs hp79 ht0 hvm hzz hH hS => ?_) (fun _ _ _ _ _ hz _ _ _ _ _ => by cases hz.1)
    obtain ⟨ho, hσ⟩ := hp79
    cases ho
    rw [hσ] at hH
    refine W.eq (g2 := F0 m 39 ls [.int (if nI 1 < nI ((ab - sp) / 25 + 1) then nI ((ab - sp) / 25 + 1) else nI 1)]) rfl ?_
    refine mn_top (w := nI (nrd ab sp)) ((nI_mx (by omega) (by omega)).trans (by rw [nrd, if_neg (Nat.not_lt.mpr hge)])) ?_
    refine lv_istore_n (lv' := [(2, .int (nI (nrd ab sp))), (1, .int (nI ab)), (0, .ref (ad 9 d))]) x.1 x.2.1 dd_dk_nextNumber_39 rfl hl (by decide) rfl (fun ls hl => ?_)
    refine lv_iload_n x.1 x.2.1 dd_dk_nextNumber_40 rfl (lv_at hl 0 rfl) ?_
    refine lv_sipush (v := nI 1000) x.1 x.2.1 dd_dk_nextNumber_41 (by decide +kernel) ?_
    refine lv_icmp_le (tgt := 51) x.1 x.2.1 dd_dk_nextNumber_44 (by decide) (fun c80 => ?_) (fun c80 => ?_)
    · have c80 : nrd ab sp ≤ 1000 := (cv_le (a := nrd ab sp) (b := 1000) (by omega) (by omega)).mp c80
      refine lv_iload_n x.1 x.2.1 dd_dk_nextNumber_51 rfl (lv_at hl 0 rfl) ?_
      refine lv_bipush (v := nI 25) x.1 x.2.1 dd_dk_nextNumber_52 (by decide +kernel) ?_
      refine lv_imul x.1 x.2.1 dd_dk_nextNumber_54 ?_
      refine mn_top (w := nI ((nrd ab sp) * 25)) (pk_mul _ _) ?_
      refine lv_aload_n x.1 x.2.1 dd_dk_nextNumber_55 rfl (lv_at hl 2 rfl) ?_
      refine mp_get x hH (la9 hL hd) fg_dk_9 rfl dd_dk_nextNumber_56 ?_
      refine mn_top (w := nI sp) (h4) ?_
      refine lv_iadd x.1 x.2.1 dd_dk_nextNumber_59 ?_
      refine mn_top (w := nI ((nrd ab sp) * 25 + sp)) (nI_add _ _) ?_
      exact mp_ri x hr hlk (by decide) (by decide) hH hS (fun _ => ⟨(congrArg (fun z => Outcome.returned (some (.int z))) (by rw [nxt, if_pos c80])), rfl⟩) dd_dk_nextNumber_60
    · have c80 : ¬ (nrd ab sp ≤ 1000) := fun h => c80 ((cv_le (a := nrd ab sp) (b := 1000) (by omega) (by omega)).mpr h)
      refine lv_iconst (v := nI 0) x.1 x.2.1 dd_dk_nextNumber_47 (by decide +kernel) ?_
      refine lv_goto (tgt := 60) x.1 x.2.1 dd_dk_nextNumber_48 (by decide) ?_
      exact mp_ri x hr hlk (by decide) (by decide) hH hS (fun _ => ⟨(congrArg (fun z => Outcome.returned (some (.int z))) (by rw [nxt, if_neg c80])), rfl⟩) dd_dk_nextNumber_60
def dpt (V : fV) (d j : Nat) : Int32 := if j = 0 then V 30 d else if j = 1 then V 31 d else if j = 2 then sO (V 32 d) else if j = 3 then dO (V 32 d) else if j = 4 then V 33 d else if j = 5 then V 34 d else if j = 6 then V 38 d else if j = 7 then V 39 d else btc (V 40 d)
set_option maxRecDepth 100000 in
set_option maxHeartbeats 4000000 in
theorem kk_D_part {l : Launch} {D : va_G} {ar : Nat → ClassId} {base : Nat} {σ : mp_M} {ad : Nat → Nat → Nat} {rg : Nat → Bool} {pl : Nat → Nat} {V M : fV} {d j : Nat} (hL : Lay ar ad rg pl V M σ) (hd : dk rg d) (hj : j < 9) : CN l D ar base yy_dk_part prog_3_method_7_code 2 (Option.some Jvm.ClassFile.FieldType.int) [] 1 12 0 0 [.ref (ad 9 d), .int (nI j)] σ (fun o σ' _ => o = .returned (some (.int (dpt V d j))) ∧ σ' = σ) := by
  refine mp_in (Nat.le_of_ble_eq_true rfl) ?_
  intro p e R s m below meth c x hfr hlo hce hsl hr hlk hin hex hG hB ls H hH0 hH hS hl
  have hl : lv_has ls 2 [(0, .ref (ad 9 d)), (1, .int (nI j))] := hl
  refine lv_iload_n x.1 x.2.1 dd_dk_part_0 rfl (lv_at hl 1 rfl) ?_
  have hsw : j = 0 ∨ j = 1 ∨ j = 2 ∨ j = 3 ∨ j = 4 ∨ j = 5 ∨ j = 6 ∨ j = 7 ∨ j = 8 := by omega
  rcases hsw with rfl | rfl | rfl | rfl | rfl | rfl | rfl | rfl | rfl
  · refine lv_tableIn (tgt := 48) x.1 x.2.1 dd_dk_part_1 (by decide +kernel) (by decide +kernel) rfl (by decide) ?_
    refine lv_aload_n x.1 x.2.1 dd_dk_part_48 rfl (lv_at hl 0 rfl) ?_
    refine mp_get x hH (la9 hL hd) fg_dk_32 rfl dd_dk_part_49 ?_
    exact mp_ri x hr hlk (by decide) (by decide) hH hS (fun _ => ⟨(congrArg (fun z => Outcome.returned (some (.int z))) (by simp [dpt])), rfl⟩) dd_dk_part_52
  · refine lv_tableIn (tgt := 53) x.1 x.2.1 dd_dk_part_1 (by decide +kernel) (by decide +kernel) rfl (by decide) ?_
    refine lv_aload_n x.1 x.2.1 dd_dk_part_53 rfl (lv_at hl 0 rfl) ?_
    refine mp_get x hH (la9 hL hd) fg_dk_35 rfl dd_dk_part_54 ?_
    exact mp_ri x hr hlk (by decide) (by decide) hH hS (fun _ => ⟨(congrArg (fun z => Outcome.returned (some (.int z))) (by simp [dpt])), rfl⟩) dd_dk_part_57
  · refine lv_tableIn (tgt := 58) x.1 x.2.1 dd_dk_part_1 (by decide +kernel) (by decide +kernel) rfl (by decide) ?_
    refine lv_aload_n x.1 x.2.1 dd_dk_part_58 rfl (lv_at hl 0 rfl) ?_
    refine mp_get x hH (la9 hL hd) fg_dk_38 rfl dd_dk_part_59 ?_
    refine mp_call x (wt_mv base) hG hB hl.1 (mp_invS (av := [.int (V 32 d)]) x mn_sg_shopOf mc_sg_shopOf (Or.inr ⟨_, ww_693⟩) ww_661 ww_54 rfl dd_dk_part_62) (kk_sg_shopOf ) (Nat.le_trans (Nat.le_of_ble_eq_true rfl) hfr) (Nat.le_trans (Nat.le_of_ble_eq_true rfl) hlo) (Nat.le_trans (Nat.le_of_ble_eq_true rfl) hce) (Nat.le_trans (Nat.le_of_ble_eq_true rfl) hsl) hH hS (fun v σa t0 H locs hp81 ht0 hvm hzz hH hS => ?_) (fun _ _ _ _ _ hz _ _ _ _ _ => by cases hz.1)
    obtain ⟨ho, hσ⟩ := hp81
    cases ho
    rw [hσ] at hH
    refine W.eq (g2 := F0 m 65 ls [.int (sO (V 32 d))]) rfl ?_
    exact mp_ri x hr hlk (by decide) (by decide) hH hS (fun _ => ⟨(congrArg (fun z => Outcome.returned (some (.int z))) (by simp [dpt])), rfl⟩) dd_dk_part_65
  · refine lv_tableIn (tgt := 66) x.1 x.2.1 dd_dk_part_1 (by decide +kernel) (by decide +kernel) rfl (by decide) ?_
    refine lv_aload_n x.1 x.2.1 dd_dk_part_66 rfl (lv_at hl 0 rfl) ?_
    refine mp_get x hH (la9 hL hd) fg_dk_38 rfl dd_dk_part_67 ?_
    refine mp_call x (wt_mv base) hG hB hl.1 (mp_invS (av := [.int (V 32 d)]) x mn_sg_dayOf mc_sg_dayOf (Or.inr ⟨_, ww_694⟩) ww_453 ww_54 rfl dd_dk_part_70) (kk_sg_dayOf ) (Nat.le_trans (Nat.le_of_ble_eq_true rfl) hfr) (Nat.le_trans (Nat.le_of_ble_eq_true rfl) hlo) (Nat.le_trans (Nat.le_of_ble_eq_true rfl) hce) (Nat.le_trans (Nat.le_of_ble_eq_true rfl) hsl) hH hS (fun v σa t0 H locs hp82 ht0 hvm hzz hH hS => ?_) (fun _ _ _ _ _ hz _ _ _ _ _ => by cases hz.1)
    obtain ⟨ho, hσ⟩ := hp82
    cases ho
    rw [hσ] at hH
    refine W.eq (g2 := F0 m 73 ls [.int (dO (V 32 d))]) rfl ?_
    exact mp_ri x hr hlk (by decide) (by decide) hH hS (fun _ => ⟨(congrArg (fun z => Outcome.returned (some (.int z))) (by simp [dpt])), rfl⟩) dd_dk_part_73
  · refine lv_tableIn (tgt := 74) x.1 x.2.1 dd_dk_part_1 (by decide +kernel) (by decide +kernel) rfl (by decide) ?_
    refine lv_aload_n x.1 x.2.1 dd_dk_part_74 rfl (lv_at hl 0 rfl) ?_
    refine mp_get x hH (la9 hL hd) fg_dk_41 rfl dd_dk_part_75 ?_
    exact mp_ri x hr hlk (by decide) (by decide) hH hS (fun _ => ⟨(congrArg (fun z => Outcome.returned (some (.int z))) (by simp [dpt])), rfl⟩) dd_dk_part_78
  · refine lv_tableIn (tgt := 79) x.1 x.2.1 dd_dk_part_1 (by decide +kernel) (by decide +kernel) rfl (by decide) ?_
    refine lv_aload_n x.1 x.2.1 dd_dk_part_79 rfl (lv_at hl 0 rfl) ?_
    refine mp_get x hH (la9 hL hd) fg_dk_21 rfl dd_dk_part_80 ?_
    refine mp_get x hH (la10 hL hd) fg_dk_44 rfl dd_dk_part_83 ?_
    exact mp_ri x hr hlk (by decide) (by decide) hH hS (fun _ => ⟨(congrArg (fun z => Outcome.returned (some (.int z))) (by simp [dpt])), rfl⟩) dd_dk_part_86
  · refine lv_tableIn (tgt := 87) x.1 x.2.1 dd_dk_part_1 (by decide +kernel) (by decide +kernel) rfl (by decide) ?_
    refine lv_aload_n x.1 x.2.1 dd_dk_part_87 rfl (lv_at hl 0 rfl) ?_
    refine mp_get x hH (la9 hL hd) fg_dk_28 rfl dd_dk_part_88 ?_
    refine mp_get x hH (la12 hL hd) fg_dk_80 rfl dd_dk_part_91 ?_
    exact mp_ri x hr hlk (by decide) (by decide) hH hS (fun _ => ⟨(congrArg (fun z => Outcome.returned (some (.int z))) (by simp [dpt])), rfl⟩) dd_dk_part_94
  · refine lv_tableIn (tgt := 95) x.1 x.2.1 dd_dk_part_1 (by decide +kernel) (by decide +kernel) rfl (by decide) ?_
    refine lv_aload_n x.1 x.2.1 dd_dk_part_95 rfl (lv_at hl 0 rfl) ?_
    refine mp_get x hH (la9 hL hd) fg_dk_28 rfl dd_dk_part_96 ?_
    refine mp_get x hH (la12 hL hd) fg_dk_83 rfl dd_dk_part_99 ?_
    exact mp_ri x hr hlk (by decide) (by decide) hH hS (fun _ => ⟨(congrArg (fun z => Outcome.returned (some (.int z))) (by simp [dpt])), rfl⟩) dd_dk_part_102
  · refine lv_tableOut (tgt := 103) x.1 x.2.1 dd_dk_part_1 (by decide +kernel) (by decide) ?_
    refine lv_aload_n x.1 x.2.1 dd_dk_part_103 rfl (lv_at hl 0 rfl) ?_
    refine mp_get x hH (la9 hL hd) fg_dk_28 rfl dd_dk_part_104 ?_
    refine mp_get x hH (la12 hL hd) fg_dk_86 rfl dd_dk_part_107 ?_
    refine mp_call x (wt_mv base) hG hB hl.1 (mp_invS (av := [.int (V 40 d)]) x mn_ji_bitCount mc_ji_bitCount (Or.inl ww_695) ww_696 ww_68 rfl dd_dk_part_110) (kk_ji_bitCount ) (Nat.le_trans (Nat.le_of_ble_eq_true rfl) hfr) (Nat.le_trans (Nat.le_of_ble_eq_true rfl) hlo) (Nat.le_trans (Nat.le_of_ble_eq_true rfl) hce) (Nat.le_trans (Nat.le_of_ble_eq_true rfl) hsl) hH hS (fun v σa t0 H locs hp83 ht0 hvm hzz hH hS => ?_) (fun _ _ _ _ _ hz _ _ _ _ _ => by cases hz.1)
    obtain ⟨ho, hσ⟩ := hp83
    cases ho
    rw [hσ] at hH
    refine W.eq (g2 := F0 m 113 ls [.int (btc (V 40 d))]) rfl ?_
    exact mp_ri x hr hlk (by decide) (by decide) hH hS (fun _ => ⟨(congrArg (fun z => Outcome.returned (some (.int z))) (by simp [dpt])), rfl⟩) dd_dk_part_113
def lak (V : fV) (q d nc : Nat) (k : Int32) : Int32 := if ¬ nI nc < V 60 q then nI 0 else if nc = 0 then nI 1 else if k - dO (V (100 + d) (nc - 1)) < V 61 q then nI 0 else nI 1
set_option maxRecDepth 100000 in
set_option maxHeartbeats 4000000 in
theorem kk_P_letsAsk {l : Launch} {D : va_G} {ar : Nat → ClassId} {base : Nat} {σ : mp_M} {ad : Nat → Nat → Nat} {rg : Nat → Bool} {pl : Nat → Nat} {V M : fV} {q d nc : Nat} {k : Int32} (hL : Lay ar ad rg pl V M σ) (hq : q < 20 ∧ rg q = true) (hd : dk rg d) (hc : V 34 d = nI nc) (hc2 : nc ≤ 12) : CN l D ar base yy_ps_letsAsk prog_7_method_2_code 4 (Option.some Jvm.ClassFile.FieldType.boolean) [] 2 26 0 0 [.ref (ad 7 q), .ref (ad 9 d), .int k] σ (fun o σ' _ => o = .returned (some (.int (lak V q d nc k))) ∧ σ' = σ) := by
  refine mp_in (Nat.le_of_ble_eq_true rfl) ?_
  intro p e R s m below meth c x hfr hlo hce hsl hr hlk hin hex hG hB ls H hH0 hH hS hl
  have hl : lv_has ls 4 [(0, .ref (ad 7 q)), (1, .ref (ad 9 d)), (2, .int k)] := hl
  refine lv_aload_n x.1 x.2.1 dd_ps_letsAsk_0 rfl (lv_at hl 1 rfl) ?_
  refine mp_get x hH (la9 hL hd) fg_ps_27 rfl dd_ps_letsAsk_1 ?_
  refine lv_astore_n (lv' := [(3, .ref (ad 10 d)), (0, .ref (ad 7 q)), (1, .ref (ad 9 d)), (2, .int k)]) x.1 x.2.1 dd_ps_letsAsk_4 rfl hl (by decide) rfl (fun ls hl => ?_)
  refine lv_aload_n x.1 x.2.1 dd_ps_letsAsk_5 rfl (lv_at hl 0 rfl) ?_
  refine mp_get x hH (la10 hL hd) fg_ps_31 rfl dd_ps_letsAsk_6 ?_
  refine mn_top (w := nI nc) (hc) ?_
  refine lv_aload_n x.1 x.2.1 dd_ps_letsAsk_9 rfl (lv_at hl 1 rfl) ?_
  refine mp_get x hH (la7 hL hq) fg_ps_9 rfl dd_ps_letsAsk_10 ?_
  refine lv_icmp_lt (tgt := 18) x.1 x.2.1 dd_ps_letsAsk_13 (by decide) (fun c84 => ?_) (fun c84 => ?_)
  · refine lv_aload_n x.1 x.2.1 dd_ps_letsAsk_18 rfl (lv_at hl 0 rfl) ?_
    refine mp_get x hH (la10 hL hd) fg_ps_31 rfl dd_ps_letsAsk_19 ?_
    refine mn_top (w := nI nc) (hc) ?_
    refine lv_if_eq (tgt := 41) x.1 x.2.1 dd_ps_letsAsk_22 (by decide) (fun c85 => ?_) (fun c85 => ?_)
    · have c85 : nc = 0 := (cv_eq (a := nc) (b := 0) (by omega) (by omega)).mp c85
      refine lv_iconst (v := nI 1) x.1 x.2.1 dd_ps_letsAsk_41 (by decide +kernel) ?_
      refine lv_goto (tgt := 46) x.1 x.2.1 dd_ps_letsAsk_42 (by decide) ?_
      exact mp_rz x hr (by decide) hlk (by decide) (by decide) hH hS (fun _ => ⟨(congrArg (fun z => Outcome.returned (some (.int z))) (by rw [lak, if_neg (fun z => z c84), if_pos c85])), rfl⟩) dd_ps_letsAsk_46
    · have c85 : ¬ (nc = 0) := fun h => c85 ((cv_eq (a := nc) (b := 0) (by omega) (by omega)).mpr h)
      refine lv_iload_n x.1 x.2.1 dd_ps_letsAsk_25 rfl (lv_at hl 3 rfl) ?_
      refine lv_aload_n x.1 x.2.1 dd_ps_letsAsk_26 rfl (lv_at hl 0 rfl) ?_
      refine mp_call x (wt_mv base) hG hB hl.1 (mp_invV (av := []) x hH (la10 hL hd) rfl rfl mn_pr_last mc_pr_last (Or.inr ⟨_, ww_444⟩) ww_446 ww_6 rfl dd_ps_letsAsk_27) (kk_pr_last (nc := nc) hL hd (hc) (by omega)) (Nat.le_trans (Nat.le_of_ble_eq_true rfl) hfr) (Nat.le_trans (Nat.le_of_ble_eq_true rfl) hlo) (Nat.le_trans (Nat.le_of_ble_eq_true rfl) hce) (Nat.le_trans (Nat.le_of_ble_eq_true rfl) hsl) hH hS (fun v σa t0 H locs hp86 ht0 hvm hzz hH hS => ?_) (fun _ _ _ _ _ hz _ _ _ _ _ => by cases hz.1)
      obtain ⟨ho, hσ⟩ := hp86
      cases ho
      rw [hσ] at hH
      refine W.eq (g2 := F0 m 30 ls [.int (if nc = 0 then (-1) else V (100 + d) (nc - 1)), .int k]) rfl ?_
      refine mn_top (w := V (100 + d) (nc - 1)) (if_neg (by omega)) ?_
      refine mp_call x (wt_mv base) hG hB hl.1 (mp_invS (av := [.int (V (100 + d) (nc - 1))]) x mn_sg_dayOf mc_sg_dayOf (Or.inr ⟨_, ww_452⟩) ww_453 ww_54 rfl dd_ps_letsAsk_30) (kk_sg_dayOf ) (Nat.le_trans (Nat.le_of_ble_eq_true rfl) hfr) (Nat.le_trans (Nat.le_of_ble_eq_true rfl) hlo) (Nat.le_trans (Nat.le_of_ble_eq_true rfl) hce) (Nat.le_trans (Nat.le_of_ble_eq_true rfl) hsl) hH hS (fun v σa t0 H locs hp87 ht0 hvm hzz hH hS => ?_) (fun _ _ _ _ _ hz _ _ _ _ _ => by cases hz.1)
      obtain ⟨ho, hσ⟩ := hp87
      cases ho
      rw [hσ] at hH
      refine W.eq (g2 := F0 m 33 ls [.int (dO (V (100 + d) (nc - 1))), .int k]) rfl ?_
      refine lv_isub x.1 x.2.1 dd_ps_letsAsk_33 ?_
      refine lv_aload_n x.1 x.2.1 dd_ps_letsAsk_34 rfl (lv_at hl 1 rfl) ?_
      refine mp_get x hH (la7 hL hq) fg_ps_15 rfl dd_ps_letsAsk_35 ?_
      refine lv_icmp_lt (tgt := 45) x.1 x.2.1 dd_ps_letsAsk_38 (by decide) (fun c88 => ?_) (fun c88 => ?_)
      · refine lv_iconst (v := nI 0) x.1 x.2.1 dd_ps_letsAsk_45 (by decide +kernel) ?_
        exact mp_rz x hr (by decide) hlk (by decide) (by decide) hH hS (fun _ => ⟨(congrArg (fun z => Outcome.returned (some (.int z))) (by rw [lak, if_neg (fun z => z c84), if_neg c85, if_pos c88])), rfl⟩) dd_ps_letsAsk_46
      · refine lv_iconst (v := nI 1) x.1 x.2.1 dd_ps_letsAsk_41 (by decide +kernel) ?_
        refine lv_goto (tgt := 46) x.1 x.2.1 dd_ps_letsAsk_42 (by decide) ?_
        exact mp_rz x hr (by decide) hlk (by decide) (by decide) hH hS (fun _ => ⟨(congrArg (fun z => Outcome.returned (some (.int z))) (by rw [lak, if_neg (fun z => z c84), if_neg c85, if_neg c88])), rfl⟩) dd_ps_letsAsk_46
  · refine lv_iconst (v := nI 0) x.1 x.2.1 dd_ps_letsAsk_16 (by decide +kernel) ?_
    exact mp_rz x hr (by decide) hlk (by decide) (by decide) hH hS (fun _ => ⟨(congrArg (fun z => Outcome.returned (some (.int z))) (by rw [lak, if_pos c84])), rfl⟩) dd_ps_letsAsk_17
