/-! CONSTRUCTORS with layouts: a prescription, the row, the grid, the model. -/
theorem va_up_s {f : Nat → Option Nat} {k : Nat} {v : Option Nat} : va_up f k v k = v := if_pos rfl
theorem va_up_o {f : Nat → Option Nat} {k j : Nat} {v : Option Nat} (h : j ≠ k) : va_up f k v j = f j := if_neg h
theorem L3_no {L : Nat → Nat → Prop} (h : ∀ kd, 4 ≤ kd → kd ≤ 6 → ¬ L kd 0) : ∀ kd, 4 ≤ kd → kd ≤ 6 → ¬ L3 L 101 kd 0 := by
  intro kd h1 h2 z
  rcases z with ((z | z) | z) | z
  · exact h kd h1 h2 z
  all_goals omega
theorem L3_rf {L : Nat → Nat → Prop} (h : ∀ kd i k0, L kd i → 4 ≤ k0 → k0 ≤ 6 → ¬ rfs kd i k0 0) : ∀ kd i k0, L3 L 101 kd i → 4 ≤ k0 → k0 ≤ 6 → ¬ rfs kd i k0 0 := by
  intro kd i k0 z h1 h2
  rcases z with ((z | z) | z) | z
  · exact h kd i k0 z h1 h2
  all_goals (unfold rfs; omega)
def LE : Nat → Nat → Prop := L4 (fun _ _ => False) 500
theorem LE_iff {kd i : Nat} (h : L4 (fun _ _ => False) 500 kd i) : 9 ≤ kd ∧ kd ≤ 12 ∧ i = 500 := by
  rcases h with (((h | h) | h) | h) | h
  · exact h.elim
  all_goals omega
theorem LE_no : ∀ kd i, 4 ≤ kd → kd ≤ 6 → ¬ L4 (fun _ _ => False) 500 kd i := fun kd i h1 h2 h => by
  have := LE_iff h
  omega
theorem LE_rf : ∀ kd i k0 t, L4 (fun _ _ => False) 500 kd i → 4 ≤ k0 → k0 ≤ 6 → ¬ rfs kd i k0 t := fun kd i k0 t h h1 h2 => by
  have := LE_iff h
  unfold rfs
  omega
theorem TV_0 : ∀ t, t < 102 → TV V0 t := fun t _ => by
  refine ⟨rfl, rfl, rfl, rfl, rfl, rfl, rfl, rfl, nI_0.symm, funext fun j => ?_⟩
  unfold V0
  rw [if_neg (by omega), if_neg (by omega)]
theorem LR_iff {kd i : Nat} (h : L3 (L3 (LL (L4 (fun _ _ => False) 500) 100) 101) 0 kd i) : (4 ≤ kd ∧ kd ≤ 6 ∧ i < 102) ∨ (9 ≤ kd ∧ kd ≤ 12 ∧ i = 500) := by
  rcases h with ((h | h) | h) | h
  · rcases h with ((h | h) | h) | h
    · rcases h with h | h
      · exact Or.inr (LE_iff h)
      · omega
    all_goals omega
  all_goals omega
theorem LR_no (k0 i0 : Nat) (hk : k0 ≤ 3) : ¬ L3 (L3 (LL (L4 (fun _ _ => False) 500) 100) 101) 0 k0 i0 := fun h => by
  have := LR_iff h
  omega
theorem LR_rf {k0 : Nat} (hk : k0 ≤ 3) : ∀ kd i, L3 (L3 (LL (L4 (fun _ _ => False) 500) 100) 101) 0 kd i → ¬ rfs kd i k0 0 := fun kd i h => by
  have := LR_iff h
  unfold rfs
  omega
theorem LO_no {A P : Prop} (h : ¬ A) (h2 : ¬ P) : ¬ (A ∨ P) := fun z => z.elim h h2
theorem LO_rf {L : Nat → Nat → Prop} {k0 i0 k1 i1 : Nat} (h : ∀ kd i, L kd i → ¬ rfs kd i k0 i0) (h2 : ¬ rfs k1 i1 k0 i0) : ∀ kd i, (L kd i ∨ (kd = k1 ∧ i = i1)) → ¬ rfs kd i k0 i0 := fun kd i z => by
  rcases z with z | ⟨rfl, rfl⟩
  · exact h kd i z
  · exact h2
def LG : Nat → Nat → Prop := fun kd i => (kd ≤ 3 ∧ i = 0) ∨ (4 ≤ kd ∧ kd ≤ 6 ∧ i < 102) ∨ (9 ≤ kd ∧ kd ≤ 12 ∧ i = 500)
theorem LG_sub {kd i : Nat} (h : LG kd i) : (((L3 (L3 (LL (L4 (fun _ _ => False) 500) 100) 101) 0 kd i ∨ (kd = 3 ∧ i = 0)) ∨ (kd = 2 ∧ i = 0)) ∨ (kd = 1 ∧ i = 0)) ∨ (kd = 0 ∧ i = 0) := by
  rcases h with h | ⟨h1, h2, h3⟩ | ⟨h1, h2, h3⟩
  · have : kd = 0 ∨ kd = 1 ∨ kd = 2 ∨ kd = 3 := by omega
    rcases this with z | z | z | z
    · exact Or.inr ⟨z, h.2⟩
    · exact Or.inl (Or.inr ⟨z, h.2⟩)
    · exact Or.inl (Or.inl (Or.inr ⟨z, h.2⟩))
    · exact Or.inl (Or.inl (Or.inl (Or.inr ⟨z, h.2⟩)))
  · refine Or.inl (Or.inl (Or.inl (Or.inl ?_)))
    by_cases i0 : i = 0
    · have : kd = 4 ∨ kd = 5 ∨ kd = 6 := by omega
      rcases this with z | z | z
      · exact Or.inr ⟨z, i0⟩
      · exact Or.inl (Or.inr ⟨z, i0⟩)
      · exact Or.inl (Or.inl (Or.inr ⟨z, i0⟩))
    · refine Or.inl (Or.inl (Or.inl ?_))
      by_cases i1 : i = 101
      · have : kd = 4 ∨ kd = 5 ∨ kd = 6 := by omega
        rcases this with z | z | z
        · exact Or.inr ⟨z, i1⟩
        · exact Or.inl (Or.inr ⟨z, i1⟩)
        · exact Or.inl (Or.inl (Or.inr ⟨z, i1⟩))
      · exact Or.inl (Or.inl (Or.inl (Or.inr ⟨h1, h2, by omega, by omega⟩)))
  · refine Or.inl (Or.inl (Or.inl (Or.inl (Or.inl (Or.inl (Or.inl (Or.inl (Or.inl (Or.inl (Or.inl ?_))))))))))
    have : kd = 9 ∨ kd = 10 ∨ kd = 11 ∨ kd = 12 := by omega
    rcases this with z | z | z | z
    · exact Or.inr ⟨z, h3⟩
    · exact Or.inl (Or.inl (Or.inr ⟨z, h3⟩))
    · exact Or.inl (Or.inl (Or.inl (Or.inr ⟨z, h3⟩)))
    · exact Or.inl (Or.inr ⟨z, h3⟩)
set_option maxRecDepth 100000 in
set_option maxHeartbeats 4000000 in
theorem kk_ps_init {l : Launch} {D : va_G} {ar : Nat → ClassId} {base : Nat} {σ : mp_M} {ad : Nat → Nat → Nat} {rg : Nat → Bool} {pl : Nat → Nat} {V M : fV} {L : Nat → Nat → Prop} {a b0 : Nat} {c1 c2 : Int32} (h0 : σ a = some (.inr (5, [.int 0, .int 0, .null]))) (hP : LayP L ar ad rg pl V M σ) (hNa : NOT L ad a) (hLn : ∀ t, t < 25 → ∀ kd, 9 ≤ kd → kd ≤ 12 → ¬ L kd (20 * t + b0)) (hLf : ∀ t, t < 25 → ∀ kd i k0, L kd i → 9 ≤ k0 → k0 ≤ 12 → ¬ rfs kd i k0 (20 * t + b0)) (hV : ∀ t, t < 25 → DV V (20 * t + b0) (nI t) (nI b0)) (hb : b0 < 20) : CN l D ar base yy_ps_init prog_7_method_1_code 5 (Option.none : Option Jvm.ClassFile.FieldType) [] 4 55 101 775 [.ref a, .int (nI b0), .int c1, .int c2] σ (fun o σ' _ => o = .returned none ∧ ∃ (ad' : Nat → Nat → Nat) (q8 : Nat), LayP (LD L b0 25) ar ad' rg pl V M σ' ∧ (∀ kd i, L kd i → ad' kd i = ad kd i) ∧ NOT (LD L b0 25) ad' a ∧ NOT (LD L b0 25) ad' q8 ∧ q8 ≠ a ∧ σ' a = some (.inr (5, [.int c1, .int c2, .ref q8])) ∧ σ' q8 = some (.inl (ar 4, 25, .inr (.inr (.inr (.inr (fun q => some (ad' 9 (20 * q + b0)))))))) ∧ FRM a σ σ') := by
  refine mp_in (Nat.le_of_ble_eq_true rfl) ?_
  intro p e R s m below meth c x hfr hlo hce hsl hr hlk hin hex hG hB ls H hH0 hH hS hl
  have hl : lv_has ls 5 [(0, .ref a), (1, .int (nI b0)), (2, .int c1), (3, .int c2)] := hl
  have hP0 := hP
  have fr0 := @FRM_id σ a
  refine lv_aload_n x.1 x.2.1 dd_ps_init_0 rfl (lv_at hl 0 rfl) ?_
  refine W.objInit x.1 x.2.1 x.2.2.2.1 (x.2.2.2.2.1 _ ww_403) (x.2.2.2.2.1 _ ww_75) (x.2.2.2.2.1 _ ww_76) rfl (hl.1.trans x.2.2.1.symm) rfl dd_ps_init_1 (Nat.le_trans (Nat.le_of_ble_eq_true rfl) hfr) (Nat.le_trans (Nat.le_of_ble_eq_true rfl) hlo) ?_
  refine W.eq (g2 := F0 m 4 ls []) rfl ?_
  refine lv_aload_n x.1 x.2.1 dd_ps_init_4 rfl (lv_at hl 0 rfl) ?_
  refine lv_iload_n x.1 x.2.1 dd_ps_init_5 rfl (lv_at hl 2 rfl) ?_
  refine mn_putF x hin hH hS h0 fq_ps_9 rfl rfl (Nat.le_of_ble_eq_true rfl) (fs' := [.int c1, .int 0, .null]) rfl dd_ps_init_6 (fun σ143 f141 o142 H locs hH hS => ?_)
  have fr144 := FRM_A fr0 o142
  refine lv_aload_n x.1 x.2.1 dd_ps_init_9 rfl (lv_at hl 0 rfl) ?_
  refine lv_iload_n x.1 x.2.1 dd_ps_init_10 rfl (lv_at hl 3 rfl) ?_
  refine mn_putF x hin hH hS f141 fq_ps_15 rfl rfl (Nat.le_of_ble_eq_true rfl) (fs' := [.int c1, .int c2, .null]) rfl dd_ps_init_11 (fun σ147 f145 o146 H locs hH hS => ?_)
  have fr148 := FRM_A fr144 o146
  refine lv_aload_n x.1 x.2.1 dd_ps_init_14 rfl (lv_at hl 0 rfl) ?_
  refine lv_bipush (v := nI 25) x.1 x.2.1 dd_ps_init_15 (by decide +kernel) ?_
  refine mn_newq x hH hS hB ww_404 ww_405 4 rfl (by decide) (Nat.le_trans (Nat.le_of_ble_eq_true rfl) hce) (Nat.le_trans (Nat.le_of_ble_eq_true rfl) hsl) dd_ps_init_17 (fun q149 σ150 h151 f152 o153 H hH hS => ?_)
  have z154 := FRM_old fr148 f145 h151
  have ne155 := fr_ne f145 h151
  have f156 := (o153 _ (ne155)).trans f145
  have fr157 := FRM_N fr148 z154 o153
  refine mn_putF x hin hH hS f156 fq_ps_20 rfl rfl (Nat.le_of_ble_eq_true rfl) (fs' := [.int c1, .int c2, .ref q149]) rfl dd_ps_init_20 (fun σ160 f158 o159 H locs hH hS => ?_)
  have f161 := (o159 _ (Ne.symm ne155)).trans f152
  have fr162 := FRM_A fr157 o159
  refine lv_iconst (v := nI 0) x.1 x.2.1 dd_ps_init_23 (by decide +kernel) ?_
  refine lv_istore (lv' := [(4, .int (nI 0)), (0, .ref a), (1, .int (nI b0)), (2, .int c1), (3, .int c2)]) x.1 x.2.1 dd_ps_init_24 hl (by decide) rfl (fun ls hl => ?_)
  have nq8 : NOT L ad q149 := NOT_new hP0 (z154)
  have hP1 := LayP_frm hP hNa fr162
  have loop : ∀ (nn j : Nat) (σ1 : mp_M) (ad1 : Nat → Nat → Nat) (f : Nat → Option Nat), j ≤ 25 → LayP (LD L b0 j) ar ad1 rg pl V M σ1 → (∀ kd i, L kd i → ad1 kd i = ad kd i) → NOT (LD L b0 j) ad1 a → NOT (LD L b0 j) ad1 q149 → σ1 a = some (.inr (5, [.int c1, .int c2, .ref q149])) → σ1 q149 = some (.inl (ar 4, 25, .inr (.inr (.inr (.inr f))))) → (∀ t, t < j → f t = some (ad1 9 (20 * t + b0))) → FRM a σ σ1 → 25 - j < nn → ∀ (ls : Array Slot) (H : Heap) (locs : List Loc), lv_has ls 5 [(4, .int (nI j)), (0, .ref a), (1, .int (nI b0)), (2, .int c1), (3, .int c2)] → HH D base σ1 H → va_S (mp_A base) s.heap H locs → W p l e R s m [.ref a, .int (nI b0), .int c1, .int c2].toArray below meth c H locs (1 + 4 * j) (25 + 30 * j) (mp_Q below s 101 775 base (mp_P D cl_L base s (fun o σ' _ => o = .returned none ∧ ∃ (ad' : Nat → Nat → Nat) (q8 : Nat), LayP (LD L b0 25) ar ad' rg pl V M σ' ∧ (∀ kd i, L kd i → ad' kd i = ad kd i) ∧ NOT (LD L b0 25) ad' a ∧ NOT (LD L b0 25) ad' q8 ∧ q8 ≠ a ∧ σ' a = some (.inr (5, [.int c1, .int c2, .ref q8])) ∧ σ' q8 = some (.inl (ar 4, 25, .inr (.inr (.inr (.inr (fun q => some (ad' 9 (20 * q + b0)))))))) ∧ FRM a σ σ'))) (F0 m 26 ls []) := by
    intro nn
    induction nn with
    | zero => intro j σ1 ad1 f _ _ _ _ _ _ _ _ _ hn; exact absurd hn (Nat.not_lt_zero _)
    | succ nn ih =>
      intro j σ1 ad1 f hj hPj hA na n8 f0 f8 hf9 fr hn ls H locs hl hH hS
      refine lv_iload x.1 x.2.1 dd_ps_init_26 (lv_at hl 0 rfl) ?_
      refine lv_bipush (v := nI 25) x.1 x.2.1 dd_ps_init_28 (by decide +kernel) ?_
      refine lv_icmp_ge (tgt := 56) x.1 x.2.1 dd_ps_init_30 (by decide) (fun c163 => ?_) (fun c163 => ?_)
      · have c163 : 25 ≤ j := (cv_le (a := 25) (b := j) (by omega) (by omega)).mp c163
        have hj25 : j = 25 := by omega
        subst hj25
        have hHx := arr_ext hH f8 (f' := fun q => some (ad1 9 (20 * q + b0))) hf9
        have hx : ∀ y, y ≠ q149 → mp_up σ1 q149 (.inl (ar 4, 25, .inr (.inr (.inr (.inr (fun q => some (ad1 9 (20 * q + b0)))))))) y = σ1 y := fun y hy => mp_un _ _ hy
        exact mp_rv x hr hlk (by decide) (by decide) hHx hS (fun _ => ⟨rfl, ad1, q149, LayP_keep hPj (fun kd i hl => hx _ (n8 kd i hl)), hA, na, n8, Ne.symm ne155, (hx _ (ne155)).trans f0, mp_us _ _ _, FRM_N fr z154 hx⟩) dd_ps_init_56
      · have c163 : ¬ (25 ≤ j) := fun h => c163 ((cv_le (a := 25) (b := j) (by omega) (by omega)).mpr h)
        refine lv_aload_n x.1 x.2.1 dd_ps_init_33 rfl (lv_at hl 1 rfl) ?_
        refine mp_get x hH f0 fg_ps_20 rfl dd_ps_init_34 ?_
        refine lv_iload x.1 x.2.1 dd_ps_init_37 (lv_at hl 0 rfl) ?_
        refine mn_new (ci := 1) (fs := [.int 0, .int 0, .null, .null, .int 0, .int 0, .int 0, .int 0]) x hH hS hB cf_dk co_dk ci_dk ww_404 ww_80 ww_55 rfl df_dk (by omega) (by omega) dd_ps_init_39 (fun q164 σ165 h166 f167 o168 H hH hS => ?_)
        have z169 := FRM_old fr f0 h166
        have ne170 := fr_ne f0 h166
        have ne171 := fr_ne f8 h166
        have f172 := (o168 _ (ne170)).trans f0
        have f173 := (o168 _ (ne171)).trans f8
        have fr174 := FRM_N fr z169 o168
        refine lv_dup x.1 x.2.1 dd_ps_init_42 rfl ?_
        refine lv_iload x.1 x.2.1 dd_ps_init_43 (lv_at hl 0 rfl) ?_
        refine lv_iload_n x.1 x.2.1 dd_ps_init_45 rfl (lv_at hl 2 rfl) ?_
        refine mp_call x (wt_mv base) hG hB hl.1 (mp_invI (av := [.int (nI j), .int (nI b0)]) x mn_dk_init rfl ww_83 (Or.inr ⟨_, ww_406⟩) ww_82 rfl dd_ps_init_46) (kk_dk_init f167) (Nat.le_trans (Nat.le_of_ble_eq_true rfl) hfr) (Nat.le_trans (Nat.le_of_ble_eq_true rfl) hlo) (by omega) (by omega) hH hS (fun v σa t H locs hp175 ht hvm hz hH hS => ?_) (fun _ _ _ _ _ hz _ _ _ _ _ => by cases hz.1)
        obtain ⟨ho, b176, b177, b178, h179, h180, h181, ne182, ne183, ne184, f185, f186, f187, f188, o189⟩ := hp175
        cases ho
        have z190 := FRM_old fr174 f172 h179
        have ne191 := fr_ne f172 h179
        have ne192 := fr_ne f173 h179
        have ne193 := fr_ne f167 h179
        have z194 := FRM_old fr174 f172 h180
        have ne195 := fr_ne f172 h180
        have ne196 := fr_ne f173 h180
        have ne197 := fr_ne f167 h180
        have z198 := FRM_old fr174 f172 h181
        have ne199 := fr_ne f172 h181
        have ne200 := fr_ne f173 h181
        have ne201 := fr_ne f167 h181
        have f202 := FRM_f o189 f172 (ne170)
        have f203 := FRM_f o189 f173 (ne171)
        have fr204 := FRM_C fr174 z169 o189
        refine W.eq (g2 := F0 m 49 ls [.ref q164, .int (nI j), .ref q149]) rfl ?_
        refine mn_aast x hH hS 4 rfl rfl f203 f185 (vp_in_nI (by omega) (by decide)) dd_ps_init_49 (fun σ207 f205 o206 H locs hH hS => ?_)
        have f208 := (o206 _ (ne155)).trans f202
        have f209 := (o206 _ (Ne.symm ne171)).trans f185
        have f210 := (o206 _ (Ne.symm ne192)).trans f186
        have f211 := (o206 _ (Ne.symm ne196)).trans f187
        have f212 := (o206 _ (Ne.symm ne200)).trans f188
        have fr213 := FRM_N fr204 z154 o206
        refine lv_iinc (v := nI (j + 1)) (lv' := [(4, .int (nI (j + 1))), (0, .ref a), (1, .int (nI b0)), (2, .int c1), (3, .int c2)]) x.1 x.2.1 dd_ps_init_50 hl (k := 0) rfl (mn_inc _) (by decide) rfl (fun ls hl => ?_)
        refine lv_goto (tgt := 26) x.1 x.2.1 dd_ps_init_53 (by decide) ?_
        obtain ⟨g1, g2, g3⟩ := LayP_newdesk (t := 20 * j + b0) hPj h166 f167 o168 h179 h180 h181 ne182 ne183 ne184 f185 f186 f187 f188 o189 (hV j (by omega)) (LD_no (hLn j (by omega))) (LD_rf (hLf j (by omega)))
        obtain ⟨na1, fa1⟩ := g2 a _ f0 na
        obtain ⟨n81, f81⟩ := g2 q149 _ f8 n8
        refine W_cs (cells' := 1 + 4 * (j + 1)) (slots' := 25 + 30 * (j + 1)) (by omega) (by omega) ?_
        exact ih (j + 1) _ (ad4 ad1 (20 * j + b0) q164 b176 b177 b178) _ (by omega) (LayP_sub (LayP_keep g1 (fun kd i hl => o206 _ (n81 kd i hl))) (fun kd i hl => LD_sub hl)) (fun kd i hl => (g3 kd i (Or.inl hl)).trans (hA kd i hl)) (fun kd i hl => na1 kd i (LD_sub hl)) (fun kd i hl => n81 kd i (LD_sub hl)) f208 f205 (fun t ht => by
            rw [nI_clamp (by omega)]
            by_cases htj : t = j
            · subst htj
              rw [va_up_s]
              exact congrArg some adu_s.symm
            · rw [va_up_o htj, hf9 t (by omega), g3 9 (20 * t + b0) (Or.inr ⟨by decide, by decide, t, by omega, rfl⟩)]) fr213 (by omega) ls H locs hl hH hS
  exact loop _ 0 _ ad _ (by decide) (LayP_sub hP1 (fun kd i hl => LD_0 hl)) (fun _ _ _ => rfl) (fun kd i hl => hNa kd i (LD_0 hl)) (fun kd i hl => nq8 kd i (LD_0 hl)) f158 f161 (fun t ht => absurd ht (Nat.not_lt_zero _)) fr162 (Nat.lt_succ_self _) ls H locs hl hH hS
set_option maxRecDepth 100000 in
set_option maxHeartbeats 4000000 in
theorem kk_lr_init {l : Launch} {D : va_G} {ar : Nat → ClassId} {base : Nat} {σ : mp_M} {ad : Nat → Nat → Nat} {rg : Nat → Bool} {pl : Nat → Nat} {V M : fV} {L : Nat → Nat → Prop} {a : Nat} (h0 : σ a = some (.inr (3, [.null, .null, .null, .int 0, .int 0, .int 0, .int 0, .int 0]))) (hP : LayP L ar ad rg pl V M σ) (hNa : NOT L ad a) (hLn : ∀ kd i, 4 ≤ kd → kd ≤ 6 → ¬ L kd i) (hLf : ∀ kd i k0 t, L kd i → 4 ≤ k0 → k0 ≤ 6 → ¬ rfs kd i k0 t) (hV : ∀ t, t < 102 → TV V t) : CN l D ar base yy_lr_init prog_5_method_1_code 2 (Option.none : Option Jvm.ClassFile.FieldType) [] 3 41 307 2446 [.ref a] σ (fun o σ' _ => o = .returned none ∧ ∃ (ad' : Nat → Nat → Nat) (q3 : Nat), LayP (L3 (L3 (LL L 100) 101) 0) ar ad' rg pl V M σ' ∧ (∀ kd i, L kd i → ad' kd i = ad kd i) ∧ NOT (L3 (L3 (LL L 100) 101) 0) ad' a ∧ NOT (L3 (L3 (LL L 100) 101) 0) ad' q3 ∧ q3 ≠ a ∧ σ' a = some (.inr (3, [.ref q3, .ref (ad' 4 101), .ref (ad' 4 0), .int 0, .int 0, .int 0, .int 0, .int 0])) ∧ σ' q3 = some (.inl (ar 5, 100, .inr (.inr (.inr (.inr (fun q => some (ad' 4 (q + 1)))))))) ∧ σ q3 = none ∧ (∀ q eq, q ≠ a → σ q = some eq → NOT L ad q → NOT (L3 (L3 (LL L 100) 101) 0) ad' q) ∧ FRM a σ σ') := by
  refine mp_in (Nat.le_of_ble_eq_true rfl) ?_
  intro p e R s m below meth c x hfr hlo hce hsl hr hlk hin hex hG hB ls H hH0 hH hS hl
  have hl : lv_has ls 2 [(0, .ref a)] := hl
  have hP0 := hP
  have fr0 := @FRM_id σ a
  refine lv_aload_n x.1 x.2.1 dd_lr_init_0 rfl (lv_at hl 0 rfl) ?_
  refine W.objInit x.1 x.2.1 x.2.2.2.1 (x.2.2.2.2.1 _ ww_189) (x.2.2.2.2.1 _ ww_75) (x.2.2.2.2.1 _ ww_76) rfl (hl.1.trans x.2.2.1.symm) rfl dd_lr_init_1 (Nat.le_trans (Nat.le_of_ble_eq_true rfl) hfr) (Nat.le_trans (Nat.le_of_ble_eq_true rfl) hlo) ?_
  refine W.eq (g2 := F0 m 4 ls []) rfl ?_
  refine lv_aload_n x.1 x.2.1 dd_lr_init_4 rfl (lv_at hl 0 rfl) ?_
  refine lv_bipush (v := nI 100) x.1 x.2.1 dd_lr_init_5 (by decide +kernel) ?_
  refine mn_newq x hH hS hB ww_190 ww_191 5 rfl (by decide) (Nat.le_trans (Nat.le_of_ble_eq_true rfl) hce) (Nat.le_trans (Nat.le_of_ble_eq_true rfl) hsl) dd_lr_init_7 (fun q214 σ215 h216 f217 o218 H hH hS => ?_)
  have z219 := FRM_old fr0 h0 h216
  have ne220 := fr_ne h0 h216
  have f221 := (o218 _ (ne220)).trans h0
  have fr222 := FRM_N fr0 z219 o218
  refine mn_putF x hin hH hS f221 fq_lr_11 rfl rfl (Nat.le_of_ble_eq_true rfl) (fs' := [.ref q214, .null, .null, .int 0, .int 0, .int 0, .int 0, .int 0]) rfl dd_lr_init_10 (fun σ225 f223 o224 H locs hH hS => ?_)
  have f226 := (o224 _ (Ne.symm ne220)).trans f217
  have fr227 := FRM_A fr222 o224
  refine lv_iconst (v := nI 0) x.1 x.2.1 dd_lr_init_13 (by decide +kernel) ?_
  refine lv_istore_n (lv' := [(1, .int (nI 0)), (0, .ref a)]) x.1 x.2.1 dd_lr_init_14 rfl hl (by decide) rfl (fun ls hl => ?_)
  have nq3 : NOT L ad q214 := NOT_new hP0 (z219)
  have hP1 := LayP_frm hP hNa fr227
  have loop : ∀ (nn j : Nat) (σ1 : mp_M) (ad1 : Nat → Nat → Nat) (f : Nat → Option Nat), j ≤ 100 → LayP (LL L j) ar ad1 rg pl V M σ1 → (∀ kd i, L kd i → ad1 kd i = ad kd i) → NOT (LL L j) ad1 a → NOT (LL L j) ad1 q214 → σ1 a = some (.inr (3, [.ref q214, .null, .null, .int 0, .int 0, .int 0, .int 0, .int 0])) → σ1 q214 = some (.inl (ar 5, 100, .inr (.inr (.inr (.inr f))))) → (∀ t, t < j → f t = some (ad1 4 (t + 1))) → (∀ q eq, q ≠ a → σ q = some eq → NOT L ad q → NOT (LL L j) ad1 q) → FRM a σ σ1 → 100 - j < nn → ∀ (ls : Array Slot) (H : Heap) (locs : List Loc), lv_has ls 2 [(1, .int (nI j)), (0, .ref a)] → HH D base σ1 H → va_S (mp_A base) s.heap H locs → W p l e R s m [.ref a].toArray below meth c H locs (1 + 3 * j) (100 + 23 * j) (mp_Q below s 307 2446 base (mp_P D cl_L base s (fun o σ' _ => o = .returned none ∧ ∃ (ad' : Nat → Nat → Nat) (q3 : Nat), LayP (L3 (L3 (LL L 100) 101) 0) ar ad' rg pl V M σ' ∧ (∀ kd i, L kd i → ad' kd i = ad kd i) ∧ NOT (L3 (L3 (LL L 100) 101) 0) ad' a ∧ NOT (L3 (L3 (LL L 100) 101) 0) ad' q3 ∧ q3 ≠ a ∧ σ' a = some (.inr (3, [.ref q3, .ref (ad' 4 101), .ref (ad' 4 0), .int 0, .int 0, .int 0, .int 0, .int 0])) ∧ σ' q3 = some (.inl (ar 5, 100, .inr (.inr (.inr (.inr (fun q => some (ad' 4 (q + 1)))))))) ∧ σ q3 = none ∧ (∀ q eq, q ≠ a → σ q = some eq → NOT L ad q → NOT (L3 (L3 (LL L 100) 101) 0) ad' q) ∧ FRM a σ σ'))) (F0 m 15 ls []) := by
    intro nn
    induction nn with
    | zero => intro j σ1 ad1 f _ _ _ _ _ _ _ _ _ _ hn; exact absurd hn (Nat.not_lt_zero _)
    | succ nn ih =>
      intro j σ1 ad1 f hj hPj hA na n8 f0 f8 hf9 hQ fr hn ls H locs hl hH hS
      refine lv_iload_n x.1 x.2.1 dd_lr_init_15 rfl (lv_at hl 0 rfl) ?_
      refine lv_bipush (v := nI 100) x.1 x.2.1 dd_lr_init_16 (by decide +kernel) ?_
      refine lv_icmp_ge (tgt := 40) x.1 x.2.1 dd_lr_init_18 (by decide) (fun c228 => ?_) (fun c228 => ?_)
      · have c228 : 100 ≤ j := (cv_le (a := 100) (b := j) (by omega) (by omega)).mp c228
        have hj25 : j = 100 := by omega
        subst hj25
        refine lv_aload_n x.1 x.2.1 dd_lr_init_40 rfl (lv_at hl 1 rfl) ?_
        refine mn_new (ci := 2) (fs := [.null, .int 0, .int 0, .int 0, .int 0, .int 0, .int 0, .int 0, .int 0]) x hH hS hB cf_lt co_lt ci_lt ww_190 ww_192 ww_59 rfl df_lt (by omega) (by omega) dd_lr_init_41 (fun q229 σ230 h231 f232 o233 H hH hS => ?_)
        have z234 := FRM_old fr f0 h231
        have ne235 := fr_ne f0 h231
        have ne236 := fr_ne f8 h231
        have f237 := (o233 _ (ne235)).trans f0
        have f238 := (o233 _ (ne236)).trans f8
        have fr239 := FRM_N fr z234 o233
        refine lv_dup x.1 x.2.1 dd_lr_init_44 rfl ?_
        refine mp_call x (wt_mv base) hG hB hl.1 (mp_invI (av := []) x mn_lt_init rfl ww_195 (Or.inr ⟨_, ww_193⟩) ww_194 rfl dd_lr_init_45) (kk_lt_init f232) (Nat.le_trans (Nat.le_of_ble_eq_true rfl) hfr) (Nat.le_trans (Nat.le_of_ble_eq_true rfl) hlo) (by omega) (by omega) hH hS (fun v σa t H locs hp240 ht hvm hz hH hS => ?_) (fun _ _ _ _ _ hz _ _ _ _ _ => by cases hz.1)
        obtain ⟨ho, b241, b242, h243, h244, ne245, f246, f247, f248, o249⟩ := hp240
        cases ho
        have z250 := FRM_old fr239 f237 h243
        have ne251 := fr_ne f237 h243
        have ne252 := fr_ne f238 h243
        have ne253 := fr_ne f232 h243
        have z254 := FRM_old fr239 f237 h244
        have ne255 := fr_ne f237 h244
        have ne256 := fr_ne f238 h244
        have ne257 := fr_ne f232 h244
        have f258 := FRM_f o249 f237 (ne235)
        have f259 := FRM_f o249 f238 (ne236)
        have fr260 := FRM_C fr239 z234 o249
        refine W.eq (g2 := F0 m 48 ls [.ref q229, .ref a]) rfl ?_
        obtain ⟨g1, g2, g3⟩ := LayP_newletter (t := 101) hPj h231 f232 o233 h243 h244 ne245 f246 f247 f248 o249 (hV 101 (by decide)) (LL_no (Or.inr (by decide)) hLn) (LL_rf (Or.inr (by decide)) hLf)
        obtain ⟨na1, -⟩ := g2 a _ f0 na
        obtain ⟨n81, -⟩ := g2 q214 _ f8 n8
        refine mn_putF x hin hH hS f258 fq_lr_18 rfl rfl (Nat.le_of_ble_eq_true rfl) (fs' := [.ref q214, .ref q229, .null, .int 0, .int 0, .int 0, .int 0, .int 0]) rfl dd_lr_init_48 (fun σ263 f261 o262 H locs hH hS => ?_)
        have f264 := (o262 _ (Ne.symm ne220)).trans f259
        have f265 := (o262 _ (Ne.symm ne235)).trans f246
        have f266 := (o262 _ (Ne.symm ne251)).trans f247
        have f267 := (o262 _ (Ne.symm ne255)).trans f248
        have fr268 := FRM_A fr260 o262
        have hP2 := LayP_keep g1 (fun kd i hl => o262 _ (na1 kd i hl))
        refine lv_aload_n x.1 x.2.1 dd_lr_init_51 rfl (lv_at hl 1 rfl) ?_
        refine mn_new (ci := 2) (fs := [.null, .int 0, .int 0, .int 0, .int 0, .int 0, .int 0, .int 0, .int 0]) x hH hS hB cf_lt co_lt ci_lt ww_190 ww_192 ww_59 rfl df_lt (by omega) (by omega) dd_lr_init_52 (fun q269 σ270 h271 f272 o273 H hH hS => ?_)
        have z274 := FRM_old fr268 f261 h271
        have ne275 := fr_ne f264 h271
        have ne276 := fr_ne f265 h271
        have ne277 := fr_ne f266 h271
        have ne278 := fr_ne f267 h271
        have ne279 := fr_ne f261 h271
        have f280 := (o273 _ (ne275)).trans f264
        have f281 := (o273 _ (ne276)).trans f265
        have f282 := (o273 _ (ne277)).trans f266
        have f283 := (o273 _ (ne278)).trans f267
        have f284 := (o273 _ (ne279)).trans f261
        have fr285 := FRM_N fr268 z274 o273
        refine lv_dup x.1 x.2.1 dd_lr_init_55 rfl ?_
        refine mp_call x (wt_mv base) hG hB hl.1 (mp_invI (av := []) x mn_lt_init rfl ww_195 (Or.inr ⟨_, ww_193⟩) ww_194 rfl dd_lr_init_56) (kk_lt_init f272) (Nat.le_trans (Nat.le_of_ble_eq_true rfl) hfr) (Nat.le_trans (Nat.le_of_ble_eq_true rfl) hlo) (by omega) (by omega) hH hS (fun v σa t H locs hp286 ht hvm hz hH hS => ?_) (fun _ _ _ _ _ hz _ _ _ _ _ => by cases hz.1)
        obtain ⟨ho, b287, b288, h289, h290, ne291, f292, f293, f294, o295⟩ := hp286
        cases ho
        have z296 := FRM_old fr285 f284 h289
        have ne297 := fr_ne f280 h289
        have ne298 := fr_ne f281 h289
        have ne299 := fr_ne f282 h289
        have ne300 := fr_ne f283 h289
        have ne301 := fr_ne f284 h289
        have ne302 := fr_ne f272 h289
        have z303 := FRM_old fr285 f284 h290
        have ne304 := fr_ne f280 h290
        have ne305 := fr_ne f281 h290
        have ne306 := fr_ne f282 h290
        have ne307 := fr_ne f283 h290
        have ne308 := fr_ne f284 h290
        have ne309 := fr_ne f272 h290
        have f310 := FRM_f o295 f280 (ne275)
        have f311 := FRM_f o295 f281 (ne276)
        have f312 := FRM_f o295 f282 (ne277)
        have f313 := FRM_f o295 f283 (ne278)
        have f314 := FRM_f o295 f284 (ne279)
        have fr315 := FRM_C fr285 z274 o295
        refine W.eq (g2 := F0 m 59 ls [.ref q269, .ref a]) rfl ?_
        obtain ⟨g4, g5, g6⟩ := LayP_newletter (t := 0) hP2 h271 f272 o273 h289 h290 ne291 f292 f293 f294 o295 (hV 0 (by decide)) (L3_no (LL_no (Or.inl rfl) hLn)) (L3_rf (LL_rf (Or.inl rfl) hLf))
        obtain ⟨na2, -⟩ := g5 a _ f261 na1
        obtain ⟨n82, -⟩ := g5 q214 _ f264 n81
        refine mn_put x hH hS f314 fp_lr_22 rfl rfl (Nat.le_of_ble_eq_true rfl) (fs' := [.ref q214, .ref q229, .ref q269, .int 0, .int 0, .int 0, .int 0, .int 0]) rfl dd_lr_init_59 (fun σ318 f316 o317 H locs hH hS => ?_)
        have f319 := (o317 _ (Ne.symm ne220)).trans f310
        have f320 := (o317 _ (Ne.symm ne235)).trans f311
        have f321 := (o317 _ (Ne.symm ne251)).trans f312
        have f322 := (o317 _ (Ne.symm ne255)).trans f313
        have f323 := (o317 _ (Ne.symm ne279)).trans f292
        have f324 := (o317 _ (Ne.symm ne301)).trans f293
        have f325 := (o317 _ (Ne.symm ne308)).trans f294
        have fr326 := FRM_A fr315 o317
        have hP3 := LayP_keep g4 (fun kd i hl => o317 _ (na2 kd i hl))
        have hf11 : ∀ t, t < 100 → f t = some ((ad3 (ad3 ad1 101 q229 b241 b242) 0 q269 b287 b288) 4 (t + 1)) := fun t ht => by
          have l1 : LL L 100 4 (t + 1) := Or.inr ⟨by decide, by decide, by omega, by omega⟩
          rw [hf9 t ht, g6 4 (t + 1) (Or.inl (Or.inl (Or.inl l1))), g3 4 (t + 1) l1]
        have hHx := arr_ext hH f319 (f' := fun q => some ((ad3 (ad3 ad1 101 q229 b241 b242) 0 q269 b287 b288) 4 (q + 1))) hf11
        have hx : ∀ y, y ≠ q214 → mp_up σ318 q214 (.inl (ar 5, 100, .inr (.inr (.inr (.inr (fun q => some ((ad3 (ad3 ad1 101 q229 b241 b242) 0 q269 b287 b288) 4 (q + 1)))))))) y = σ318 y := fun y hy => mp_un _ _ hy
        have ed : (ad3 (ad3 ad1 101 q229 b241 b242) 0 q269 b287 b288) 4 101 = q229 := (g6 4 101 (Or.inr ⟨rfl, rfl⟩)).trans adu_s
        have et : (ad3 (ad3 ad1 101 q229 b241 b242) 0 q269 b287 b288) 4 0 = q269 := adu_s
        exact mp_rv x hr hlk (by decide) (by decide) hHx hS (fun _ => ⟨rfl, (ad3 (ad3 ad1 101 q229 b241 b242) 0 q269 b287 b288), q214, LayP_keep hP3 (fun kd i hl => hx _ (n82 kd i hl)), fun kd i hl => ((g6 kd i (Or.inl (Or.inl (Or.inl (Or.inl hl))))).trans (g3 kd i (Or.inl hl))).trans (hA kd i hl), na2, n82, Ne.symm ne220, (by rw [ed, et]; exact (hx _ (ne220)).trans f316), mp_us _ _ _, z219, fun q eq hqa hq hn => (g5 q eq ((fr268 q hqa (sn_ hq)).trans hq) (g2 q eq ((fr q hqa (sn_ hq)).trans hq) (hQ q eq hqa hq hn)).1).1, FRM_N fr326 z219 hx⟩) dd_lr_init_62
      · have c228 : ¬ (100 ≤ j) := fun h => c228 ((cv_le (a := 100) (b := j) (by omega) (by omega)).mpr h)
        refine lv_aload_n x.1 x.2.1 dd_lr_init_21 rfl (lv_at hl 1 rfl) ?_
        refine mp_get x hH f0 fg_lr_11 rfl dd_lr_init_22 ?_
        refine lv_iload_n x.1 x.2.1 dd_lr_init_25 rfl (lv_at hl 0 rfl) ?_
        refine mn_new (ci := 2) (fs := [.null, .int 0, .int 0, .int 0, .int 0, .int 0, .int 0, .int 0, .int 0]) x hH hS hB cf_lt co_lt ci_lt ww_190 ww_192 ww_59 rfl df_lt (by omega) (by omega) dd_lr_init_26 (fun q327 σ328 h329 f330 o331 H hH hS => ?_)
        have z332 := FRM_old fr f0 h329
        have ne333 := fr_ne f0 h329
        have ne334 := fr_ne f8 h329
        have f335 := (o331 _ (ne333)).trans f0
        have f336 := (o331 _ (ne334)).trans f8
        have fr337 := FRM_N fr z332 o331
        refine lv_dup x.1 x.2.1 dd_lr_init_29 rfl ?_
        refine mp_call x (wt_mv base) hG hB hl.1 (mp_invI (av := []) x mn_lt_init rfl ww_195 (Or.inr ⟨_, ww_193⟩) ww_194 rfl dd_lr_init_30) (kk_lt_init f330) (Nat.le_trans (Nat.le_of_ble_eq_true rfl) hfr) (Nat.le_trans (Nat.le_of_ble_eq_true rfl) hlo) (by omega) (by omega) hH hS (fun v σa t H locs hp338 ht hvm hz hH hS => ?_) (fun _ _ _ _ _ hz _ _ _ _ _ => by cases hz.1)
        obtain ⟨ho, b339, b340, h341, h342, ne343, f344, f345, f346, o347⟩ := hp338
        cases ho
        have z348 := FRM_old fr337 f335 h341
        have ne349 := fr_ne f335 h341
        have ne350 := fr_ne f336 h341
        have ne351 := fr_ne f330 h341
        have z352 := FRM_old fr337 f335 h342
        have ne353 := fr_ne f335 h342
        have ne354 := fr_ne f336 h342
        have ne355 := fr_ne f330 h342
        have f356 := FRM_f o347 f335 (ne333)
        have f357 := FRM_f o347 f336 (ne334)
        have fr358 := FRM_C fr337 z332 o347
        refine W.eq (g2 := F0 m 33 ls [.ref q327, .int (nI j), .ref q214]) rfl ?_
        refine mn_aast x hH hS 5 rfl rfl f357 f344 (vp_in_nI (by omega) (by decide)) dd_lr_init_33 (fun σ361 f359 o360 H locs hH hS => ?_)
        have f362 := (o360 _ (ne220)).trans f356
        have f363 := (o360 _ (Ne.symm ne334)).trans f344
        have f364 := (o360 _ (Ne.symm ne350)).trans f345
        have f365 := (o360 _ (Ne.symm ne354)).trans f346
        have fr366 := FRM_N fr358 z219 o360
        refine lv_iinc (v := nI (j + 1)) (lv' := [(1, .int (nI (j + 1))), (0, .ref a)]) x.1 x.2.1 dd_lr_init_34 hl (k := 0) rfl (mn_inc _) (by decide) rfl (fun ls hl => ?_)
        refine lv_goto (tgt := 15) x.1 x.2.1 dd_lr_init_37 (by decide) ?_
        obtain ⟨g1, g2, g3⟩ := LayP_newletter (t := j + 1) hPj h329 f330 o331 h341 h342 ne343 f344 f345 f346 o347 (hV (j + 1) (by omega)) (LL_no (Or.inr (by omega)) hLn) (LL_rf (Or.inr (by omega)) hLf)
        obtain ⟨na1, fa1⟩ := g2 a _ f0 na
        obtain ⟨n81, f81⟩ := g2 q214 _ f8 n8
        refine W_cs (cells' := 1 + 3 * (j + 1)) (slots' := 100 + 23 * (j + 1)) (by omega) (by omega) ?_
        exact ih (j + 1) _ (ad3 ad1 (j + 1) q327 b339 b340) _ (by omega) (LayP_sub (LayP_keep g1 (fun kd i hl => o360 _ (n81 kd i hl))) (fun kd i hl => LL_sub hl)) (fun kd i hl => (g3 kd i (Or.inl hl)).trans (hA kd i hl)) (fun kd i hl => na1 kd i (LL_sub hl)) (fun kd i hl => n81 kd i (LL_sub hl)) f362 f359 (fun t ht => by
            rw [nI_clamp (by omega)]
            by_cases htj : t = j
            · subst htj
              rw [va_up_s]
              exact congrArg some adu_s.symm
            · rw [va_up_o htj, hf9 t (by omega), g3 4 (t + 1) (Or.inr ⟨by decide, by decide, by omega, by omega⟩)]) (fun q eq hqa hq hn kd i hl => (g2 q eq ((fr q hqa (sn_ hq)).trans hq) (hQ q eq hqa hq hn)).1 kd i (LL_sub hl)) fr366 (by omega) ls H locs hl hH hS
  exact loop _ 0 _ ad _ (by decide) (LayP_sub hP1 (fun kd i hl => LL_0 hl)) (fun _ _ _ => rfl) (fun kd i hl => hNa kd i (LL_0 hl)) (fun kd i hl => nq3 kd i (LL_0 hl)) f223 f226 (fun t ht => absurd ht (Nat.not_lt_zero _)) (fun q eq _ _ hn kd i hl => hn kd i (LL_0 hl)) fr227 (Nat.lt_succ_self _) ls H locs hl hH hS
set_option maxRecDepth 100000 in
set_option maxHeartbeats 4000000 in
theorem kk_md_init {l : Launch} {D : va_G} {ar : Nat → ClassId} {base : Nat} {σ : mp_M} {ad : Nat → Nat → Nat} {rg : Nat → Bool} {pl : Nat → Nat} {V : fV} {L : Nat → Nat → Prop} {a : Nat} (h0 : σ a = some (.inr (7, [.null, .null, .null, .null, .null, .null, .null, .null, .null, .null, .null, .null, .null, .null, .null, .null, .null, .null, .null, .null, .null, .null, .int 0, .null, .int 0, .int 0, .int 0, .int 0]))) (hP : LayP L ar ad rg pl V M0 σ) (hNa : NOT L ad a) (hLn : ∀ kd i, 13 ≤ kd → kd ≤ 14 → ¬ L kd i) : CN l D ar base yy_md_init prog_9_method_1_code 1 (Option.none : Option Jvm.ClassFile.FieldType) [] 1 12 23 23499 [.ref a] σ (fun o σ' _ => o = .returned none ∧ ∃ ad' : Nat → Nat → Nat, LayP (fun kd i => LM L 24 kd i ∨ (kd = 13 ∧ i = 0)) ar ad' rg pl V M0 σ' ∧ (∀ kd i, L kd i → ad' kd i = ad kd i) ∧ ad' 13 0 = a ∧ FRM a σ σ') := by
  refine mp_in (Nat.le_of_ble_eq_true rfl) ?_
  intro p e R s m below meth c x hfr hlo hce hsl hr hlk hin hex hG hB ls H hH0 hH hS hl
  have hl : lv_has ls 1 [(0, .ref a)] := hl
  have fr0 := @FRM_id σ a
  have P_0 := LayP_sub hP (fun kd i hl => LM_0 hl)
  have na_0 : NOT (LM L 0) ad a := fun kd i hl => hNa kd i (LM_0 hl)
  have A_0 : ∀ kd i, L kd i → ad kd i = ad kd i := fun _ _ _ => rfl
  refine lv_aload_n x.1 x.2.1 dd_md_init_0 rfl (lv_at hl 0 rfl) ?_
  refine W.objInit x.1 x.2.1 x.2.2.2.1 (x.2.2.2.2.1 _ ww_713) (x.2.2.2.2.1 _ ww_75) (x.2.2.2.2.1 _ ww_76) rfl (hl.1.trans x.2.2.1.symm) rfl dd_md_init_1 (Nat.le_trans (Nat.le_of_ble_eq_true rfl) hfr) (Nat.le_trans (Nat.le_of_ble_eq_true rfl) hlo) ?_
  refine W.eq (g2 := F0 m 4 ls []) rfl ?_
  refine lv_aload_n x.1 x.2.1 dd_md_init_4 rfl (lv_at hl 0 rfl) ?_
  refine lv_bipush (v := nI 20) x.1 x.2.1 dd_md_init_5 (by decide +kernel) ?_
  refine mn_newi x hH hS hB ww_102 (by decide) (Nat.le_trans (Nat.le_of_ble_eq_true rfl) hce) (Nat.le_trans (Nat.le_of_ble_eq_true rfl) hsl) dd_md_init_7 (fun q367 σ368 h369 f370 o371 H hH hS => ?_)
  have z372 := FRM_old fr0 h0 h369
  have ne373 := fr_ne h0 h369
  have f374 := (o371 _ (ne373)).trans h0
  have fr375 := FRM_N fr0 z372 o371
  have n_0 := NOT_new P_0 h369
  have Q_0 := LayP_keep P_0 (fun kd i hl => o371 _ (n_0 kd i hl))
  have R_0 := LayP_sub (LayP_one (k0 := 14) (i0 := 0) (q := q367) Q_0 f370 n_0 (LM_no hLn) (LM_rf hLn)) (fun kd i hl => LM_sub hl)
  have na_1 : NOT (LM L 1) (adu ad 14 0 q367) a := fun kd i hl => NOT_adu (k0 := 14) (i0 := 0) (q := q367) na_0 (LM_no hLn) (Ne.symm (fr_ne h0 h369)) kd i (LM_sub hl)
  have A_1 := agr_adu (k0 := 14) (i0 := 0) (q := q367) A_0 (hLn 14 0 (by decide) (by decide))
  refine mn_putF x hin hH hS f374 fq_md_7 rfl rfl (Nat.le_of_ble_eq_true rfl) (fs' := [.ref q367, .null, .null, .null, .null, .null, .null, .null, .null, .null, .null, .null, .null, .null, .null, .null, .null, .null, .null, .null, .null, .null, .int 0, .null, .int 0, .int 0, .int 0, .int 0]) rfl dd_md_init_9 (fun σ378 f376 o377 H locs hH hS => ?_)
  have fr379 := FRM_A fr375 o377
  have P380 := LayP_keep R_0 (fun kd i hl => o377 _ (na_1 kd i hl))
  refine lv_aload_n x.1 x.2.1 dd_md_init_12 rfl (lv_at hl 0 rfl) ?_
  refine lv_bipush (v := nI 20) x.1 x.2.1 dd_md_init_13 (by decide +kernel) ?_
  refine mn_newi x hH hS hB ww_102 (by decide) (Nat.le_trans (Nat.le_of_ble_eq_true rfl) hce) (Nat.le_trans (Nat.le_of_ble_eq_true rfl) hsl) dd_md_init_15 (fun q381 σ382 h383 f384 o385 H hH hS => ?_)
  have z386 := FRM_old fr379 f376 h383
  have ne387 := fr_ne f376 h383
  have f388 := (o385 _ (ne387)).trans f376
  have fr389 := FRM_N fr379 z386 o385
  have n_1 := NOT_new P380 h383
  have Q_1 := LayP_keep P380 (fun kd i hl => o385 _ (n_1 kd i hl))
  have R_1 := LayP_sub (LayP_one (k0 := 14) (i0 := 1) (q := q381) Q_1 f384 n_1 (LM_no hLn) (LM_rf hLn)) (fun kd i hl => LM_sub hl)
  have na_2 : NOT (LM L 2) (adu (adu ad 14 0 q367) 14 1 q381) a := fun kd i hl => NOT_adu (k0 := 14) (i0 := 1) (q := q381) na_1 (LM_no hLn) (Ne.symm (fr_ne f376 h383)) kd i (LM_sub hl)
  have A_2 := agr_adu (k0 := 14) (i0 := 1) (q := q381) A_1 (hLn 14 1 (by decide) (by decide))
  refine mn_putF x hin hH hS f388 fq_md_13 rfl rfl (Nat.le_of_ble_eq_true rfl) (fs' := [.ref q367, .ref q381, .null, .null, .null, .null, .null, .null, .null, .null, .null, .null, .null, .null, .null, .null, .null, .null, .null, .null, .null, .null, .int 0, .null, .int 0, .int 0, .int 0, .int 0]) rfl dd_md_init_17 (fun σ392 f390 o391 H locs hH hS => ?_)
  have fr393 := FRM_A fr389 o391
  have P394 := LayP_keep R_1 (fun kd i hl => o391 _ (na_2 kd i hl))
  refine lv_aload_n x.1 x.2.1 dd_md_init_20 rfl (lv_at hl 0 rfl) ?_
  refine lv_bipush (v := nI 25) x.1 x.2.1 dd_md_init_21 (by decide +kernel) ?_
  refine mn_newz x hH hS hB ww_799 (by decide) (Nat.le_trans (Nat.le_of_ble_eq_true rfl) hce) (Nat.le_trans (Nat.le_of_ble_eq_true rfl) hsl) dd_md_init_23 (fun q395 σ396 h397 f398 o399 H hH hS => ?_)
  have z400 := FRM_old fr393 f390 h397
  have ne401 := fr_ne f390 h397
  have f402 := (o399 _ (ne401)).trans f390
  have fr403 := FRM_N fr393 z400 o399
  have n_2 := NOT_new P394 h397
  have Q_2 := LayP_keep P394 (fun kd i hl => o399 _ (n_2 kd i hl))
  have R_2 := LayP_sub (LayP_one (k0 := 14) (i0 := 2) (q := q395) Q_2 f398 n_2 (LM_no hLn) (LM_rf hLn)) (fun kd i hl => LM_sub hl)
  have na_3 : NOT (LM L 3) (adu (adu (adu ad 14 0 q367) 14 1 q381) 14 2 q395) a := fun kd i hl => NOT_adu (k0 := 14) (i0 := 2) (q := q395) na_2 (LM_no hLn) (Ne.symm (fr_ne f390 h397)) kd i (LM_sub hl)
  have A_3 := agr_adu (k0 := 14) (i0 := 2) (q := q395) A_2 (hLn 14 2 (by decide) (by decide))
  refine mn_putF x hin hH hS f402 fq_md_16 rfl rfl (Nat.le_of_ble_eq_true rfl) (fs' := [.ref q367, .ref q381, .ref q395, .null, .null, .null, .null, .null, .null, .null, .null, .null, .null, .null, .null, .null, .null, .null, .null, .null, .null, .null, .int 0, .null, .int 0, .int 0, .int 0, .int 0]) rfl dd_md_init_25 (fun σ406 f404 o405 H locs hH hS => ?_)
  have fr407 := FRM_A fr403 o405
  have P408 := LayP_keep R_2 (fun kd i hl => o405 _ (na_3 kd i hl))
  refine lv_aload_n x.1 x.2.1 dd_md_init_28 rfl (lv_at hl 0 rfl) ?_
  refine lv_sipush (v := nI 500) x.1 x.2.1 dd_md_init_29 (by decide +kernel) ?_
  refine mn_newi x hH hS hB ww_102 (by decide) (Nat.le_trans (Nat.le_of_ble_eq_true rfl) hce) (Nat.le_trans (Nat.le_of_ble_eq_true rfl) hsl) dd_md_init_32 (fun q409 σ410 h411 f412 o413 H hH hS => ?_)
  have z414 := FRM_old fr407 f404 h411
  have ne415 := fr_ne f404 h411
  have f416 := (o413 _ (ne415)).trans f404
  have fr417 := FRM_N fr407 z414 o413
  have n_3 := NOT_new P408 h411
  have Q_3 := LayP_keep P408 (fun kd i hl => o413 _ (n_3 kd i hl))
  have R_3 := LayP_sub (LayP_one (k0 := 14) (i0 := 3) (q := q409) Q_3 f412 n_3 (LM_no hLn) (LM_rf hLn)) (fun kd i hl => LM_sub hl)
  have na_4 : NOT (LM L 4) (adu (adu (adu (adu ad 14 0 q367) 14 1 q381) 14 2 q395) 14 3 q409) a := fun kd i hl => NOT_adu (k0 := 14) (i0 := 3) (q := q409) na_3 (LM_no hLn) (Ne.symm (fr_ne f404 h411)) kd i (LM_sub hl)
  have A_4 := agr_adu (k0 := 14) (i0 := 3) (q := q409) A_3 (hLn 14 3 (by decide) (by decide))
  refine mn_putF x hin hH hS f416 fq_md_20 rfl rfl (Nat.le_of_ble_eq_true rfl) (fs' := [.ref q367, .ref q381, .ref q395, .ref q409, .null, .null, .null, .null, .null, .null, .null, .null, .null, .null, .null, .null, .null, .null, .null, .null, .null, .null, .int 0, .null, .int 0, .int 0, .int 0, .int 0]) rfl dd_md_init_34 (fun σ420 f418 o419 H locs hH hS => ?_)
  have fr421 := FRM_A fr417 o419
  have P422 := LayP_keep R_3 (fun kd i hl => o419 _ (na_4 kd i hl))
  refine lv_aload_n x.1 x.2.1 dd_md_init_37 rfl (lv_at hl 0 rfl) ?_
  refine lv_sipush (v := nI 500) x.1 x.2.1 dd_md_init_38 (by decide +kernel) ?_
  refine mn_newi x hH hS hB ww_102 (by decide) (Nat.le_trans (Nat.le_of_ble_eq_true rfl) hce) (Nat.le_trans (Nat.le_of_ble_eq_true rfl) hsl) dd_md_init_41 (fun q423 σ424 h425 f426 o427 H hH hS => ?_)
  have z428 := FRM_old fr421 f418 h425
  have ne429 := fr_ne f418 h425
  have f430 := (o427 _ (ne429)).trans f418
  have fr431 := FRM_N fr421 z428 o427
  have n_4 := NOT_new P422 h425
  have Q_4 := LayP_keep P422 (fun kd i hl => o427 _ (n_4 kd i hl))
  have R_4 := LayP_sub (LayP_one (k0 := 14) (i0 := 4) (q := q423) Q_4 f426 n_4 (LM_no hLn) (LM_rf hLn)) (fun kd i hl => LM_sub hl)
  have na_5 : NOT (LM L 5) (adu (adu (adu (adu (adu ad 14 0 q367) 14 1 q381) 14 2 q395) 14 3 q409) 14 4 q423) a := fun kd i hl => NOT_adu (k0 := 14) (i0 := 4) (q := q423) na_4 (LM_no hLn) (Ne.symm (fr_ne f418 h425)) kd i (LM_sub hl)
  have A_5 := agr_adu (k0 := 14) (i0 := 4) (q := q423) A_4 (hLn 14 4 (by decide) (by decide))
  refine mn_putF x hin hH hS f430 fq_md_23 rfl rfl (Nat.le_of_ble_eq_true rfl) (fs' := [.ref q367, .ref q381, .ref q395, .ref q409, .ref q423, .null, .null, .null, .null, .null, .null, .null, .null, .null, .null, .null, .null, .null, .null, .null, .null, .null, .int 0, .null, .int 0, .int 0, .int 0, .int 0]) rfl dd_md_init_43 (fun σ434 f432 o433 H locs hH hS => ?_)
  have fr435 := FRM_A fr431 o433
  have P436 := LayP_keep R_4 (fun kd i hl => o433 _ (na_5 kd i hl))
  refine lv_aload_n x.1 x.2.1 dd_md_init_46 rfl (lv_at hl 0 rfl) ?_
  refine lv_sipush (v := nI 500) x.1 x.2.1 dd_md_init_47 (by decide +kernel) ?_
  refine mn_newi x hH hS hB ww_102 (by decide) (Nat.le_trans (Nat.le_of_ble_eq_true rfl) hce) (Nat.le_trans (Nat.le_of_ble_eq_true rfl) hsl) dd_md_init_50 (fun q437 σ438 h439 f440 o441 H hH hS => ?_)
  have z442 := FRM_old fr435 f432 h439
  have ne443 := fr_ne f432 h439
  have f444 := (o441 _ (ne443)).trans f432
  have fr445 := FRM_N fr435 z442 o441
  have n_5 := NOT_new P436 h439
  have Q_5 := LayP_keep P436 (fun kd i hl => o441 _ (n_5 kd i hl))
  have R_5 := LayP_sub (LayP_one (k0 := 14) (i0 := 5) (q := q437) Q_5 f440 n_5 (LM_no hLn) (LM_rf hLn)) (fun kd i hl => LM_sub hl)
  have na_6 : NOT (LM L 6) (adu (adu (adu (adu (adu (adu ad 14 0 q367) 14 1 q381) 14 2 q395) 14 3 q409) 14 4 q423) 14 5 q437) a := fun kd i hl => NOT_adu (k0 := 14) (i0 := 5) (q := q437) na_5 (LM_no hLn) (Ne.symm (fr_ne f432 h439)) kd i (LM_sub hl)
  have A_6 := agr_adu (k0 := 14) (i0 := 5) (q := q437) A_5 (hLn 14 5 (by decide) (by decide))
  refine mn_putF x hin hH hS f444 fq_md_26 rfl rfl (Nat.le_of_ble_eq_true rfl) (fs' := [.ref q367, .ref q381, .ref q395, .ref q409, .ref q423, .ref q437, .null, .null, .null, .null, .null, .null, .null, .null, .null, .null, .null, .null, .null, .null, .null, .null, .int 0, .null, .int 0, .int 0, .int 0, .int 0]) rfl dd_md_init_52 (fun σ448 f446 o447 H locs hH hS => ?_)
  have fr449 := FRM_A fr445 o447
  have P450 := LayP_keep R_5 (fun kd i hl => o447 _ (na_6 kd i hl))
  refine lv_aload_n x.1 x.2.1 dd_md_init_55 rfl (lv_at hl 0 rfl) ?_
  refine lv_sipush (v := nI 500) x.1 x.2.1 dd_md_init_56 (by decide +kernel) ?_
  refine mn_newi x hH hS hB ww_102 (by decide) (Nat.le_trans (Nat.le_of_ble_eq_true rfl) hce) (Nat.le_trans (Nat.le_of_ble_eq_true rfl) hsl) dd_md_init_59 (fun q451 σ452 h453 f454 o455 H hH hS => ?_)
  have z456 := FRM_old fr449 f446 h453
  have ne457 := fr_ne f446 h453
  have f458 := (o455 _ (ne457)).trans f446
  have fr459 := FRM_N fr449 z456 o455
  have n_6 := NOT_new P450 h453
  have Q_6 := LayP_keep P450 (fun kd i hl => o455 _ (n_6 kd i hl))
  have R_6 := LayP_sub (LayP_one (k0 := 14) (i0 := 6) (q := q451) Q_6 f454 n_6 (LM_no hLn) (LM_rf hLn)) (fun kd i hl => LM_sub hl)
  have na_7 : NOT (LM L 7) (adu (adu (adu (adu (adu (adu (adu ad 14 0 q367) 14 1 q381) 14 2 q395) 14 3 q409) 14 4 q423) 14 5 q437) 14 6 q451) a := fun kd i hl => NOT_adu (k0 := 14) (i0 := 6) (q := q451) na_6 (LM_no hLn) (Ne.symm (fr_ne f446 h453)) kd i (LM_sub hl)
  have A_7 := agr_adu (k0 := 14) (i0 := 6) (q := q451) A_6 (hLn 14 6 (by decide) (by decide))
  refine mn_putF x hin hH hS f458 fq_md_29 rfl rfl (Nat.le_of_ble_eq_true rfl) (fs' := [.ref q367, .ref q381, .ref q395, .ref q409, .ref q423, .ref q437, .ref q451, .null, .null, .null, .null, .null, .null, .null, .null, .null, .null, .null, .null, .null, .null, .null, .int 0, .null, .int 0, .int 0, .int 0, .int 0]) rfl dd_md_init_61 (fun σ462 f460 o461 H locs hH hS => ?_)
  have fr463 := FRM_A fr459 o461
  have P464 := LayP_keep R_6 (fun kd i hl => o461 _ (na_7 kd i hl))
  refine lv_aload_n x.1 x.2.1 dd_md_init_64 rfl (lv_at hl 0 rfl) ?_
  refine lv_sipush (v := nI 500) x.1 x.2.1 dd_md_init_65 (by decide +kernel) ?_
  refine mn_newi x hH hS hB ww_102 (by decide) (Nat.le_trans (Nat.le_of_ble_eq_true rfl) hce) (Nat.le_trans (Nat.le_of_ble_eq_true rfl) hsl) dd_md_init_68 (fun q465 σ466 h467 f468 o469 H hH hS => ?_)
  have z470 := FRM_old fr463 f460 h467
  have ne471 := fr_ne f460 h467
  have f472 := (o469 _ (ne471)).trans f460
  have fr473 := FRM_N fr463 z470 o469
  have n_7 := NOT_new P464 h467
  have Q_7 := LayP_keep P464 (fun kd i hl => o469 _ (n_7 kd i hl))
  have R_7 := LayP_sub (LayP_one (k0 := 14) (i0 := 7) (q := q465) Q_7 f468 n_7 (LM_no hLn) (LM_rf hLn)) (fun kd i hl => LM_sub hl)
  have na_8 : NOT (LM L 8) (adu (adu (adu (adu (adu (adu (adu (adu ad 14 0 q367) 14 1 q381) 14 2 q395) 14 3 q409) 14 4 q423) 14 5 q437) 14 6 q451) 14 7 q465) a := fun kd i hl => NOT_adu (k0 := 14) (i0 := 7) (q := q465) na_7 (LM_no hLn) (Ne.symm (fr_ne f460 h467)) kd i (LM_sub hl)
  have A_8 := agr_adu (k0 := 14) (i0 := 7) (q := q465) A_7 (hLn 14 7 (by decide) (by decide))
  refine mn_putF x hin hH hS f472 fq_md_32 rfl rfl (Nat.le_of_ble_eq_true rfl) (fs' := [.ref q367, .ref q381, .ref q395, .ref q409, .ref q423, .ref q437, .ref q451, .ref q465, .null, .null, .null, .null, .null, .null, .null, .null, .null, .null, .null, .null, .null, .null, .int 0, .null, .int 0, .int 0, .int 0, .int 0]) rfl dd_md_init_70 (fun σ476 f474 o475 H locs hH hS => ?_)
  have fr477 := FRM_A fr473 o475
  have P478 := LayP_keep R_7 (fun kd i hl => o475 _ (na_8 kd i hl))
  refine lv_aload_n x.1 x.2.1 dd_md_init_73 rfl (lv_at hl 0 rfl) ?_
  refine lv_sipush (v := nI 500) x.1 x.2.1 dd_md_init_74 (by decide +kernel) ?_
  refine mn_newi x hH hS hB ww_102 (by decide) (Nat.le_trans (Nat.le_of_ble_eq_true rfl) hce) (Nat.le_trans (Nat.le_of_ble_eq_true rfl) hsl) dd_md_init_77 (fun q479 σ480 h481 f482 o483 H hH hS => ?_)
  have z484 := FRM_old fr477 f474 h481
  have ne485 := fr_ne f474 h481
  have f486 := (o483 _ (ne485)).trans f474
  have fr487 := FRM_N fr477 z484 o483
  have n_8 := NOT_new P478 h481
  have Q_8 := LayP_keep P478 (fun kd i hl => o483 _ (n_8 kd i hl))
  have R_8 := LayP_sub (LayP_one (k0 := 14) (i0 := 8) (q := q479) Q_8 f482 n_8 (LM_no hLn) (LM_rf hLn)) (fun kd i hl => LM_sub hl)
  have na_9 : NOT (LM L 9) (adu (adu (adu (adu (adu (adu (adu (adu (adu ad 14 0 q367) 14 1 q381) 14 2 q395) 14 3 q409) 14 4 q423) 14 5 q437) 14 6 q451) 14 7 q465) 14 8 q479) a := fun kd i hl => NOT_adu (k0 := 14) (i0 := 8) (q := q479) na_8 (LM_no hLn) (Ne.symm (fr_ne f474 h481)) kd i (LM_sub hl)
  have A_9 := agr_adu (k0 := 14) (i0 := 8) (q := q479) A_8 (hLn 14 8 (by decide) (by decide))
  refine mn_putF x hin hH hS f486 fq_md_35 rfl rfl (Nat.le_of_ble_eq_true rfl) (fs' := [.ref q367, .ref q381, .ref q395, .ref q409, .ref q423, .ref q437, .ref q451, .ref q465, .ref q479, .null, .null, .null, .null, .null, .null, .null, .null, .null, .null, .null, .null, .null, .int 0, .null, .int 0, .int 0, .int 0, .int 0]) rfl dd_md_init_79 (fun σ490 f488 o489 H locs hH hS => ?_)
  have fr491 := FRM_A fr487 o489
  have P492 := LayP_keep R_8 (fun kd i hl => o489 _ (na_9 kd i hl))
  refine lv_aload_n x.1 x.2.1 dd_md_init_82 rfl (lv_at hl 0 rfl) ?_
  refine lv_sipush (v := nI 6000) x.1 x.2.1 dd_md_init_83 (by decide +kernel) ?_
  refine mn_newi x hH hS hB ww_102 (by decide) (Nat.le_trans (Nat.le_of_ble_eq_true rfl) hce) (Nat.le_trans (Nat.le_of_ble_eq_true rfl) hsl) dd_md_init_86 (fun q493 σ494 h495 f496 o497 H hH hS => ?_)
  have z498 := FRM_old fr491 f488 h495
  have ne499 := fr_ne f488 h495
  have f500 := (o497 _ (ne499)).trans f488
  have fr501 := FRM_N fr491 z498 o497
  have n_9 := NOT_new P492 h495
  have Q_9 := LayP_keep P492 (fun kd i hl => o497 _ (n_9 kd i hl))
  have R_9 := LayP_sub (LayP_one (k0 := 14) (i0 := 9) (q := q493) Q_9 f496 n_9 (LM_no hLn) (LM_rf hLn)) (fun kd i hl => LM_sub hl)
  have na_10 : NOT (LM L 10) (adu (adu (adu (adu (adu (adu (adu (adu (adu (adu ad 14 0 q367) 14 1 q381) 14 2 q395) 14 3 q409) 14 4 q423) 14 5 q437) 14 6 q451) 14 7 q465) 14 8 q479) 14 9 q493) a := fun kd i hl => NOT_adu (k0 := 14) (i0 := 9) (q := q493) na_9 (LM_no hLn) (Ne.symm (fr_ne f488 h495)) kd i (LM_sub hl)
  have A_10 := agr_adu (k0 := 14) (i0 := 9) (q := q493) A_9 (hLn 14 9 (by decide) (by decide))
  refine mn_putF x hin hH hS f500 fq_md_38 rfl rfl (Nat.le_of_ble_eq_true rfl) (fs' := [.ref q367, .ref q381, .ref q395, .ref q409, .ref q423, .ref q437, .ref q451, .ref q465, .ref q479, .ref q493, .null, .null, .null, .null, .null, .null, .null, .null, .null, .null, .null, .null, .int 0, .null, .int 0, .int 0, .int 0, .int 0]) rfl dd_md_init_88 (fun σ504 f502 o503 H locs hH hS => ?_)
  have fr505 := FRM_A fr501 o503
  have P506 := LayP_keep R_9 (fun kd i hl => o503 _ (na_10 kd i hl))
  refine lv_aload_n x.1 x.2.1 dd_md_init_91 rfl (lv_at hl 0 rfl) ?_
  refine lv_sipush (v := nI 6000) x.1 x.2.1 dd_md_init_92 (by decide +kernel) ?_
  refine mn_newi x hH hS hB ww_102 (by decide) (Nat.le_trans (Nat.le_of_ble_eq_true rfl) hce) (Nat.le_trans (Nat.le_of_ble_eq_true rfl) hsl) dd_md_init_95 (fun q507 σ508 h509 f510 o511 H hH hS => ?_)
  have z512 := FRM_old fr505 f502 h509
  have ne513 := fr_ne f502 h509
  have f514 := (o511 _ (ne513)).trans f502
  have fr515 := FRM_N fr505 z512 o511
  have n_10 := NOT_new P506 h509
  have Q_10 := LayP_keep P506 (fun kd i hl => o511 _ (n_10 kd i hl))
  have R_10 := LayP_sub (LayP_one (k0 := 14) (i0 := 10) (q := q507) Q_10 f510 n_10 (LM_no hLn) (LM_rf hLn)) (fun kd i hl => LM_sub hl)
  have na_11 : NOT (LM L 11) (adu (adu (adu (adu (adu (adu (adu (adu (adu (adu (adu ad 14 0 q367) 14 1 q381) 14 2 q395) 14 3 q409) 14 4 q423) 14 5 q437) 14 6 q451) 14 7 q465) 14 8 q479) 14 9 q493) 14 10 q507) a := fun kd i hl => NOT_adu (k0 := 14) (i0 := 10) (q := q507) na_10 (LM_no hLn) (Ne.symm (fr_ne f502 h509)) kd i (LM_sub hl)
  have A_11 := agr_adu (k0 := 14) (i0 := 10) (q := q507) A_10 (hLn 14 10 (by decide) (by decide))
  refine mn_putF x hin hH hS f514 fq_md_41 rfl rfl (Nat.le_of_ble_eq_true rfl) (fs' := [.ref q367, .ref q381, .ref q395, .ref q409, .ref q423, .ref q437, .ref q451, .ref q465, .ref q479, .ref q493, .ref q507, .null, .null, .null, .null, .null, .null, .null, .null, .null, .null, .null, .int 0, .null, .int 0, .int 0, .int 0, .int 0]) rfl dd_md_init_97 (fun σ518 f516 o517 H locs hH hS => ?_)
  have fr519 := FRM_A fr515 o517
  have P520 := LayP_keep R_10 (fun kd i hl => o517 _ (na_11 kd i hl))
  refine lv_aload_n x.1 x.2.1 dd_md_init_100 rfl (lv_at hl 0 rfl) ?_
  refine lv_sipush (v := nI 500) x.1 x.2.1 dd_md_init_101 (by decide +kernel) ?_
  refine mn_newi x hH hS hB ww_102 (by decide) (Nat.le_trans (Nat.le_of_ble_eq_true rfl) hce) (Nat.le_trans (Nat.le_of_ble_eq_true rfl) hsl) dd_md_init_104 (fun q521 σ522 h523 f524 o525 H hH hS => ?_)
  have z526 := FRM_old fr519 f516 h523
  have ne527 := fr_ne f516 h523
  have f528 := (o525 _ (ne527)).trans f516
  have fr529 := FRM_N fr519 z526 o525
  have n_11 := NOT_new P520 h523
  have Q_11 := LayP_keep P520 (fun kd i hl => o525 _ (n_11 kd i hl))
  have R_11 := LayP_sub (LayP_one (k0 := 14) (i0 := 11) (q := q521) Q_11 f524 n_11 (LM_no hLn) (LM_rf hLn)) (fun kd i hl => LM_sub hl)
  have na_12 : NOT (LM L 12) (adu (adu (adu (adu (adu (adu (adu (adu (adu (adu (adu (adu ad 14 0 q367) 14 1 q381) 14 2 q395) 14 3 q409) 14 4 q423) 14 5 q437) 14 6 q451) 14 7 q465) 14 8 q479) 14 9 q493) 14 10 q507) 14 11 q521) a := fun kd i hl => NOT_adu (k0 := 14) (i0 := 11) (q := q521) na_11 (LM_no hLn) (Ne.symm (fr_ne f516 h523)) kd i (LM_sub hl)
  have A_12 := agr_adu (k0 := 14) (i0 := 11) (q := q521) A_11 (hLn 14 11 (by decide) (by decide))
  refine mn_putF x hin hH hS f528 fq_md_44 rfl rfl (Nat.le_of_ble_eq_true rfl) (fs' := [.ref q367, .ref q381, .ref q395, .ref q409, .ref q423, .ref q437, .ref q451, .ref q465, .ref q479, .ref q493, .ref q507, .ref q521, .null, .null, .null, .null, .null, .null, .null, .null, .null, .null, .int 0, .null, .int 0, .int 0, .int 0, .int 0]) rfl dd_md_init_106 (fun σ532 f530 o531 H locs hH hS => ?_)
  have fr533 := FRM_A fr529 o531
  have P534 := LayP_keep R_11 (fun kd i hl => o531 _ (na_12 kd i hl))
  refine lv_aload_n x.1 x.2.1 dd_md_init_109 rfl (lv_at hl 0 rfl) ?_
  refine lv_sipush (v := nI 500) x.1 x.2.1 dd_md_init_110 (by decide +kernel) ?_
  refine mn_newi x hH hS hB ww_102 (by decide) (Nat.le_trans (Nat.le_of_ble_eq_true rfl) hce) (Nat.le_trans (Nat.le_of_ble_eq_true rfl) hsl) dd_md_init_113 (fun q535 σ536 h537 f538 o539 H hH hS => ?_)
  have z540 := FRM_old fr533 f530 h537
  have ne541 := fr_ne f530 h537
  have f542 := (o539 _ (ne541)).trans f530
  have fr543 := FRM_N fr533 z540 o539
  have n_12 := NOT_new P534 h537
  have Q_12 := LayP_keep P534 (fun kd i hl => o539 _ (n_12 kd i hl))
  have R_12 := LayP_sub (LayP_one (k0 := 14) (i0 := 12) (q := q535) Q_12 f538 n_12 (LM_no hLn) (LM_rf hLn)) (fun kd i hl => LM_sub hl)
  have na_13 : NOT (LM L 13) (adu (adu (adu (adu (adu (adu (adu (adu (adu (adu (adu (adu (adu ad 14 0 q367) 14 1 q381) 14 2 q395) 14 3 q409) 14 4 q423) 14 5 q437) 14 6 q451) 14 7 q465) 14 8 q479) 14 9 q493) 14 10 q507) 14 11 q521) 14 12 q535) a := fun kd i hl => NOT_adu (k0 := 14) (i0 := 12) (q := q535) na_12 (LM_no hLn) (Ne.symm (fr_ne f530 h537)) kd i (LM_sub hl)
  have A_13 := agr_adu (k0 := 14) (i0 := 12) (q := q535) A_12 (hLn 14 12 (by decide) (by decide))
  refine mn_putF x hin hH hS f542 fq_md_47 rfl rfl (Nat.le_of_ble_eq_true rfl) (fs' := [.ref q367, .ref q381, .ref q395, .ref q409, .ref q423, .ref q437, .ref q451, .ref q465, .ref q479, .ref q493, .ref q507, .ref q521, .ref q535, .null, .null, .null, .null, .null, .null, .null, .null, .null, .int 0, .null, .int 0, .int 0, .int 0, .int 0]) rfl dd_md_init_115 (fun σ546 f544 o545 H locs hH hS => ?_)
  have fr547 := FRM_A fr543 o545
  have P548 := LayP_keep R_12 (fun kd i hl => o545 _ (na_13 kd i hl))
  refine lv_aload_n x.1 x.2.1 dd_md_init_118 rfl (lv_at hl 0 rfl) ?_
  refine lv_sipush (v := nI 500) x.1 x.2.1 dd_md_init_119 (by decide +kernel) ?_
  refine mn_newi x hH hS hB ww_102 (by decide) (Nat.le_trans (Nat.le_of_ble_eq_true rfl) hce) (Nat.le_trans (Nat.le_of_ble_eq_true rfl) hsl) dd_md_init_122 (fun q549 σ550 h551 f552 o553 H hH hS => ?_)
  have z554 := FRM_old fr547 f544 h551
  have ne555 := fr_ne f544 h551
  have f556 := (o553 _ (ne555)).trans f544
  have fr557 := FRM_N fr547 z554 o553
  have n_13 := NOT_new P548 h551
  have Q_13 := LayP_keep P548 (fun kd i hl => o553 _ (n_13 kd i hl))
  have R_13 := LayP_sub (LayP_one (k0 := 14) (i0 := 13) (q := q549) Q_13 f552 n_13 (LM_no hLn) (LM_rf hLn)) (fun kd i hl => LM_sub hl)
  have na_14 : NOT (LM L 14) (adu (adu (adu (adu (adu (adu (adu (adu (adu (adu (adu (adu (adu (adu ad 14 0 q367) 14 1 q381) 14 2 q395) 14 3 q409) 14 4 q423) 14 5 q437) 14 6 q451) 14 7 q465) 14 8 q479) 14 9 q493) 14 10 q507) 14 11 q521) 14 12 q535) 14 13 q549) a := fun kd i hl => NOT_adu (k0 := 14) (i0 := 13) (q := q549) na_13 (LM_no hLn) (Ne.symm (fr_ne f544 h551)) kd i (LM_sub hl)
  have A_14 := agr_adu (k0 := 14) (i0 := 13) (q := q549) A_13 (hLn 14 13 (by decide) (by decide))
  refine mn_putF x hin hH hS f556 fq_md_50 rfl rfl (Nat.le_of_ble_eq_true rfl) (fs' := [.ref q367, .ref q381, .ref q395, .ref q409, .ref q423, .ref q437, .ref q451, .ref q465, .ref q479, .ref q493, .ref q507, .ref q521, .ref q535, .ref q549, .null, .null, .null, .null, .null, .null, .null, .null, .int 0, .null, .int 0, .int 0, .int 0, .int 0]) rfl dd_md_init_124 (fun σ560 f558 o559 H locs hH hS => ?_)
  have fr561 := FRM_A fr557 o559
  have P562 := LayP_keep R_13 (fun kd i hl => o559 _ (na_14 kd i hl))
  refine lv_aload_n x.1 x.2.1 dd_md_init_127 rfl (lv_at hl 0 rfl) ?_
  refine lv_sipush (v := nI 500) x.1 x.2.1 dd_md_init_128 (by decide +kernel) ?_
  refine mn_newi x hH hS hB ww_102 (by decide) (Nat.le_trans (Nat.le_of_ble_eq_true rfl) hce) (Nat.le_trans (Nat.le_of_ble_eq_true rfl) hsl) dd_md_init_131 (fun q563 σ564 h565 f566 o567 H hH hS => ?_)
  have z568 := FRM_old fr561 f558 h565
  have ne569 := fr_ne f558 h565
  have f570 := (o567 _ (ne569)).trans f558
  have fr571 := FRM_N fr561 z568 o567
  have n_14 := NOT_new P562 h565
  have Q_14 := LayP_keep P562 (fun kd i hl => o567 _ (n_14 kd i hl))
  have R_14 := LayP_sub (LayP_one (k0 := 14) (i0 := 14) (q := q563) Q_14 f566 n_14 (LM_no hLn) (LM_rf hLn)) (fun kd i hl => LM_sub hl)
  have na_15 : NOT (LM L 15) (adu (adu (adu (adu (adu (adu (adu (adu (adu (adu (adu (adu (adu (adu (adu ad 14 0 q367) 14 1 q381) 14 2 q395) 14 3 q409) 14 4 q423) 14 5 q437) 14 6 q451) 14 7 q465) 14 8 q479) 14 9 q493) 14 10 q507) 14 11 q521) 14 12 q535) 14 13 q549) 14 14 q563) a := fun kd i hl => NOT_adu (k0 := 14) (i0 := 14) (q := q563) na_14 (LM_no hLn) (Ne.symm (fr_ne f558 h565)) kd i (LM_sub hl)
  have A_15 := agr_adu (k0 := 14) (i0 := 14) (q := q563) A_14 (hLn 14 14 (by decide) (by decide))
  refine mn_putF x hin hH hS f570 fq_md_53 rfl rfl (Nat.le_of_ble_eq_true rfl) (fs' := [.ref q367, .ref q381, .ref q395, .ref q409, .ref q423, .ref q437, .ref q451, .ref q465, .ref q479, .ref q493, .ref q507, .ref q521, .ref q535, .ref q549, .ref q563, .null, .null, .null, .null, .null, .null, .null, .int 0, .null, .int 0, .int 0, .int 0, .int 0]) rfl dd_md_init_133 (fun σ574 f572 o573 H locs hH hS => ?_)
  have fr575 := FRM_A fr571 o573
  have P576 := LayP_keep R_14 (fun kd i hl => o573 _ (na_15 kd i hl))
  refine lv_aload_n x.1 x.2.1 dd_md_init_136 rfl (lv_at hl 0 rfl) ?_
  refine lv_sipush (v := nI 500) x.1 x.2.1 dd_md_init_137 (by decide +kernel) ?_
  refine mn_newi x hH hS hB ww_102 (by decide) (Nat.le_trans (Nat.le_of_ble_eq_true rfl) hce) (Nat.le_trans (Nat.le_of_ble_eq_true rfl) hsl) dd_md_init_140 (fun q577 σ578 h579 f580 o581 H hH hS => ?_)
  have z582 := FRM_old fr575 f572 h579
  have ne583 := fr_ne f572 h579
  have f584 := (o581 _ (ne583)).trans f572
  have fr585 := FRM_N fr575 z582 o581
  have n_15 := NOT_new P576 h579
  have Q_15 := LayP_keep P576 (fun kd i hl => o581 _ (n_15 kd i hl))
  have R_15 := LayP_sub (LayP_one (k0 := 14) (i0 := 15) (q := q577) Q_15 f580 n_15 (LM_no hLn) (LM_rf hLn)) (fun kd i hl => LM_sub hl)
  have na_16 : NOT (LM L 16) (adu (adu (adu (adu (adu (adu (adu (adu (adu (adu (adu (adu (adu (adu (adu (adu ad 14 0 q367) 14 1 q381) 14 2 q395) 14 3 q409) 14 4 q423) 14 5 q437) 14 6 q451) 14 7 q465) 14 8 q479) 14 9 q493) 14 10 q507) 14 11 q521) 14 12 q535) 14 13 q549) 14 14 q563) 14 15 q577) a := fun kd i hl => NOT_adu (k0 := 14) (i0 := 15) (q := q577) na_15 (LM_no hLn) (Ne.symm (fr_ne f572 h579)) kd i (LM_sub hl)
  have A_16 := agr_adu (k0 := 14) (i0 := 15) (q := q577) A_15 (hLn 14 15 (by decide) (by decide))
  refine mn_putF x hin hH hS f584 fq_md_56 rfl rfl (Nat.le_of_ble_eq_true rfl) (fs' := [.ref q367, .ref q381, .ref q395, .ref q409, .ref q423, .ref q437, .ref q451, .ref q465, .ref q479, .ref q493, .ref q507, .ref q521, .ref q535, .ref q549, .ref q563, .ref q577, .null, .null, .null, .null, .null, .null, .int 0, .null, .int 0, .int 0, .int 0, .int 0]) rfl dd_md_init_142 (fun σ588 f586 o587 H locs hH hS => ?_)
  have fr589 := FRM_A fr585 o587
  have P590 := LayP_keep R_15 (fun kd i hl => o587 _ (na_16 kd i hl))
  refine lv_aload_n x.1 x.2.1 dd_md_init_145 rfl (lv_at hl 0 rfl) ?_
  refine lv_sipush (v := nI 500) x.1 x.2.1 dd_md_init_146 (by decide +kernel) ?_
  refine mn_newi x hH hS hB ww_102 (by decide) (Nat.le_trans (Nat.le_of_ble_eq_true rfl) hce) (Nat.le_trans (Nat.le_of_ble_eq_true rfl) hsl) dd_md_init_149 (fun q591 σ592 h593 f594 o595 H hH hS => ?_)
  have z596 := FRM_old fr589 f586 h593
  have ne597 := fr_ne f586 h593
  have f598 := (o595 _ (ne597)).trans f586
  have fr599 := FRM_N fr589 z596 o595
  have n_16 := NOT_new P590 h593
  have Q_16 := LayP_keep P590 (fun kd i hl => o595 _ (n_16 kd i hl))
  have R_16 := LayP_sub (LayP_one (k0 := 14) (i0 := 16) (q := q591) Q_16 f594 n_16 (LM_no hLn) (LM_rf hLn)) (fun kd i hl => LM_sub hl)
  have na_17 : NOT (LM L 17) (adu (adu (adu (adu (adu (adu (adu (adu (adu (adu (adu (adu (adu (adu (adu (adu (adu ad 14 0 q367) 14 1 q381) 14 2 q395) 14 3 q409) 14 4 q423) 14 5 q437) 14 6 q451) 14 7 q465) 14 8 q479) 14 9 q493) 14 10 q507) 14 11 q521) 14 12 q535) 14 13 q549) 14 14 q563) 14 15 q577) 14 16 q591) a := fun kd i hl => NOT_adu (k0 := 14) (i0 := 16) (q := q591) na_16 (LM_no hLn) (Ne.symm (fr_ne f586 h593)) kd i (LM_sub hl)
  have A_17 := agr_adu (k0 := 14) (i0 := 16) (q := q591) A_16 (hLn 14 16 (by decide) (by decide))
  refine mn_putF x hin hH hS f598 fq_md_59 rfl rfl (Nat.le_of_ble_eq_true rfl) (fs' := [.ref q367, .ref q381, .ref q395, .ref q409, .ref q423, .ref q437, .ref q451, .ref q465, .ref q479, .ref q493, .ref q507, .ref q521, .ref q535, .ref q549, .ref q563, .ref q577, .ref q591, .null, .null, .null, .null, .null, .int 0, .null, .int 0, .int 0, .int 0, .int 0]) rfl dd_md_init_151 (fun σ602 f600 o601 H locs hH hS => ?_)
  have fr603 := FRM_A fr599 o601
  have P604 := LayP_keep R_16 (fun kd i hl => o601 _ (na_17 kd i hl))
  refine lv_aload_n x.1 x.2.1 dd_md_init_154 rfl (lv_at hl 0 rfl) ?_
  refine lv_sipush (v := nI 500) x.1 x.2.1 dd_md_init_155 (by decide +kernel) ?_
  refine mn_newi x hH hS hB ww_102 (by decide) (Nat.le_trans (Nat.le_of_ble_eq_true rfl) hce) (Nat.le_trans (Nat.le_of_ble_eq_true rfl) hsl) dd_md_init_158 (fun q605 σ606 h607 f608 o609 H hH hS => ?_)
  have z610 := FRM_old fr603 f600 h607
  have ne611 := fr_ne f600 h607
  have f612 := (o609 _ (ne611)).trans f600
  have fr613 := FRM_N fr603 z610 o609
  have n_17 := NOT_new P604 h607
  have Q_17 := LayP_keep P604 (fun kd i hl => o609 _ (n_17 kd i hl))
  have R_17 := LayP_sub (LayP_one (k0 := 14) (i0 := 17) (q := q605) Q_17 f608 n_17 (LM_no hLn) (LM_rf hLn)) (fun kd i hl => LM_sub hl)
  have na_18 : NOT (LM L 18) (adu (adu (adu (adu (adu (adu (adu (adu (adu (adu (adu (adu (adu (adu (adu (adu (adu (adu ad 14 0 q367) 14 1 q381) 14 2 q395) 14 3 q409) 14 4 q423) 14 5 q437) 14 6 q451) 14 7 q465) 14 8 q479) 14 9 q493) 14 10 q507) 14 11 q521) 14 12 q535) 14 13 q549) 14 14 q563) 14 15 q577) 14 16 q591) 14 17 q605) a := fun kd i hl => NOT_adu (k0 := 14) (i0 := 17) (q := q605) na_17 (LM_no hLn) (Ne.symm (fr_ne f600 h607)) kd i (LM_sub hl)
  have A_18 := agr_adu (k0 := 14) (i0 := 17) (q := q605) A_17 (hLn 14 17 (by decide) (by decide))
  refine mn_putF x hin hH hS f612 fq_md_62 rfl rfl (Nat.le_of_ble_eq_true rfl) (fs' := [.ref q367, .ref q381, .ref q395, .ref q409, .ref q423, .ref q437, .ref q451, .ref q465, .ref q479, .ref q493, .ref q507, .ref q521, .ref q535, .ref q549, .ref q563, .ref q577, .ref q591, .ref q605, .null, .null, .null, .null, .int 0, .null, .int 0, .int 0, .int 0, .int 0]) rfl dd_md_init_160 (fun σ616 f614 o615 H locs hH hS => ?_)
  have fr617 := FRM_A fr613 o615
  have P618 := LayP_keep R_17 (fun kd i hl => o615 _ (na_18 kd i hl))
  refine lv_aload_n x.1 x.2.1 dd_md_init_163 rfl (lv_at hl 0 rfl) ?_
  refine lv_sipush (v := nI 500) x.1 x.2.1 dd_md_init_164 (by decide +kernel) ?_
  refine mn_newi x hH hS hB ww_102 (by decide) (Nat.le_trans (Nat.le_of_ble_eq_true rfl) hce) (Nat.le_trans (Nat.le_of_ble_eq_true rfl) hsl) dd_md_init_167 (fun q619 σ620 h621 f622 o623 H hH hS => ?_)
  have z624 := FRM_old fr617 f614 h621
  have ne625 := fr_ne f614 h621
  have f626 := (o623 _ (ne625)).trans f614
  have fr627 := FRM_N fr617 z624 o623
  have n_18 := NOT_new P618 h621
  have Q_18 := LayP_keep P618 (fun kd i hl => o623 _ (n_18 kd i hl))
  have R_18 := LayP_sub (LayP_one (k0 := 14) (i0 := 18) (q := q619) Q_18 f622 n_18 (LM_no hLn) (LM_rf hLn)) (fun kd i hl => LM_sub hl)
  have na_19 : NOT (LM L 19) (adu (adu (adu (adu (adu (adu (adu (adu (adu (adu (adu (adu (adu (adu (adu (adu (adu (adu (adu ad 14 0 q367) 14 1 q381) 14 2 q395) 14 3 q409) 14 4 q423) 14 5 q437) 14 6 q451) 14 7 q465) 14 8 q479) 14 9 q493) 14 10 q507) 14 11 q521) 14 12 q535) 14 13 q549) 14 14 q563) 14 15 q577) 14 16 q591) 14 17 q605) 14 18 q619) a := fun kd i hl => NOT_adu (k0 := 14) (i0 := 18) (q := q619) na_18 (LM_no hLn) (Ne.symm (fr_ne f614 h621)) kd i (LM_sub hl)
  have A_19 := agr_adu (k0 := 14) (i0 := 18) (q := q619) A_18 (hLn 14 18 (by decide) (by decide))
  refine mn_putF x hin hH hS f626 fq_md_65 rfl rfl (Nat.le_of_ble_eq_true rfl) (fs' := [.ref q367, .ref q381, .ref q395, .ref q409, .ref q423, .ref q437, .ref q451, .ref q465, .ref q479, .ref q493, .ref q507, .ref q521, .ref q535, .ref q549, .ref q563, .ref q577, .ref q591, .ref q605, .ref q619, .null, .null, .null, .int 0, .null, .int 0, .int 0, .int 0, .int 0]) rfl dd_md_init_169 (fun σ630 f628 o629 H locs hH hS => ?_)
  have fr631 := FRM_A fr627 o629
  have P632 := LayP_keep R_18 (fun kd i hl => o629 _ (na_19 kd i hl))
  refine lv_aload_n x.1 x.2.1 dd_md_init_172 rfl (lv_at hl 0 rfl) ?_
  refine lv_sipush (v := nI 500) x.1 x.2.1 dd_md_init_173 (by decide +kernel) ?_
  refine mn_newi x hH hS hB ww_102 (by decide) (Nat.le_trans (Nat.le_of_ble_eq_true rfl) hce) (Nat.le_trans (Nat.le_of_ble_eq_true rfl) hsl) dd_md_init_176 (fun q633 σ634 h635 f636 o637 H hH hS => ?_)
  have z638 := FRM_old fr631 f628 h635
  have ne639 := fr_ne f628 h635
  have f640 := (o637 _ (ne639)).trans f628
  have fr641 := FRM_N fr631 z638 o637
  have n_19 := NOT_new P632 h635
  have Q_19 := LayP_keep P632 (fun kd i hl => o637 _ (n_19 kd i hl))
  have R_19 := LayP_sub (LayP_one (k0 := 14) (i0 := 19) (q := q633) Q_19 f636 n_19 (LM_no hLn) (LM_rf hLn)) (fun kd i hl => LM_sub hl)
  have na_20 : NOT (LM L 20) (adu (adu (adu (adu (adu (adu (adu (adu (adu (adu (adu (adu (adu (adu (adu (adu (adu (adu (adu (adu ad 14 0 q367) 14 1 q381) 14 2 q395) 14 3 q409) 14 4 q423) 14 5 q437) 14 6 q451) 14 7 q465) 14 8 q479) 14 9 q493) 14 10 q507) 14 11 q521) 14 12 q535) 14 13 q549) 14 14 q563) 14 15 q577) 14 16 q591) 14 17 q605) 14 18 q619) 14 19 q633) a := fun kd i hl => NOT_adu (k0 := 14) (i0 := 19) (q := q633) na_19 (LM_no hLn) (Ne.symm (fr_ne f628 h635)) kd i (LM_sub hl)
  have A_20 := agr_adu (k0 := 14) (i0 := 19) (q := q633) A_19 (hLn 14 19 (by decide) (by decide))
  refine mn_putF x hin hH hS f640 fq_md_68 rfl rfl (Nat.le_of_ble_eq_true rfl) (fs' := [.ref q367, .ref q381, .ref q395, .ref q409, .ref q423, .ref q437, .ref q451, .ref q465, .ref q479, .ref q493, .ref q507, .ref q521, .ref q535, .ref q549, .ref q563, .ref q577, .ref q591, .ref q605, .ref q619, .ref q633, .null, .null, .int 0, .null, .int 0, .int 0, .int 0, .int 0]) rfl dd_md_init_178 (fun σ644 f642 o643 H locs hH hS => ?_)
  have fr645 := FRM_A fr641 o643
  have P646 := LayP_keep R_19 (fun kd i hl => o643 _ (na_20 kd i hl))
  refine lv_aload_n x.1 x.2.1 dd_md_init_181 rfl (lv_at hl 0 rfl) ?_
  refine lv_sipush (v := nI 500) x.1 x.2.1 dd_md_init_182 (by decide +kernel) ?_
  refine mn_newi x hH hS hB ww_102 (by decide) (Nat.le_trans (Nat.le_of_ble_eq_true rfl) hce) (Nat.le_trans (Nat.le_of_ble_eq_true rfl) hsl) dd_md_init_185 (fun q647 σ648 h649 f650 o651 H hH hS => ?_)
  have z652 := FRM_old fr645 f642 h649
  have ne653 := fr_ne f642 h649
  have f654 := (o651 _ (ne653)).trans f642
  have fr655 := FRM_N fr645 z652 o651
  have n_20 := NOT_new P646 h649
  have Q_20 := LayP_keep P646 (fun kd i hl => o651 _ (n_20 kd i hl))
  have R_20 := LayP_sub (LayP_one (k0 := 14) (i0 := 20) (q := q647) Q_20 f650 n_20 (LM_no hLn) (LM_rf hLn)) (fun kd i hl => LM_sub hl)
  have na_21 : NOT (LM L 21) (adu (adu (adu (adu (adu (adu (adu (adu (adu (adu (adu (adu (adu (adu (adu (adu (adu (adu (adu (adu (adu ad 14 0 q367) 14 1 q381) 14 2 q395) 14 3 q409) 14 4 q423) 14 5 q437) 14 6 q451) 14 7 q465) 14 8 q479) 14 9 q493) 14 10 q507) 14 11 q521) 14 12 q535) 14 13 q549) 14 14 q563) 14 15 q577) 14 16 q591) 14 17 q605) 14 18 q619) 14 19 q633) 14 20 q647) a := fun kd i hl => NOT_adu (k0 := 14) (i0 := 20) (q := q647) na_20 (LM_no hLn) (Ne.symm (fr_ne f642 h649)) kd i (LM_sub hl)
  have A_21 := agr_adu (k0 := 14) (i0 := 20) (q := q647) A_20 (hLn 14 20 (by decide) (by decide))
  refine mn_putF x hin hH hS f654 fq_md_71 rfl rfl (Nat.le_of_ble_eq_true rfl) (fs' := [.ref q367, .ref q381, .ref q395, .ref q409, .ref q423, .ref q437, .ref q451, .ref q465, .ref q479, .ref q493, .ref q507, .ref q521, .ref q535, .ref q549, .ref q563, .ref q577, .ref q591, .ref q605, .ref q619, .ref q633, .ref q647, .null, .int 0, .null, .int 0, .int 0, .int 0, .int 0]) rfl dd_md_init_187 (fun σ658 f656 o657 H locs hH hS => ?_)
  have fr659 := FRM_A fr655 o657
  have P660 := LayP_keep R_20 (fun kd i hl => o657 _ (na_21 kd i hl))
  refine lv_aload_n x.1 x.2.1 dd_md_init_190 rfl (lv_at hl 0 rfl) ?_
  refine lv_sipush (v := nI 3400) x.1 x.2.1 dd_md_init_191 (by decide +kernel) ?_
  refine mn_newi x hH hS hB ww_102 (by decide) (Nat.le_trans (Nat.le_of_ble_eq_true rfl) hce) (Nat.le_trans (Nat.le_of_ble_eq_true rfl) hsl) dd_md_init_194 (fun q661 σ662 h663 f664 o665 H hH hS => ?_)
  have z666 := FRM_old fr659 f656 h663
  have ne667 := fr_ne f656 h663
  have f668 := (o665 _ (ne667)).trans f656
  have fr669 := FRM_N fr659 z666 o665
  have n_21 := NOT_new P660 h663
  have Q_21 := LayP_keep P660 (fun kd i hl => o665 _ (n_21 kd i hl))
  have R_21 := LayP_sub (LayP_one (k0 := 14) (i0 := 21) (q := q661) Q_21 f664 n_21 (LM_no hLn) (LM_rf hLn)) (fun kd i hl => LM_sub hl)
  have na_22 : NOT (LM L 22) (adu (adu (adu (adu (adu (adu (adu (adu (adu (adu (adu (adu (adu (adu (adu (adu (adu (adu (adu (adu (adu (adu ad 14 0 q367) 14 1 q381) 14 2 q395) 14 3 q409) 14 4 q423) 14 5 q437) 14 6 q451) 14 7 q465) 14 8 q479) 14 9 q493) 14 10 q507) 14 11 q521) 14 12 q535) 14 13 q549) 14 14 q563) 14 15 q577) 14 16 q591) 14 17 q605) 14 18 q619) 14 19 q633) 14 20 q647) 14 21 q661) a := fun kd i hl => NOT_adu (k0 := 14) (i0 := 21) (q := q661) na_21 (LM_no hLn) (Ne.symm (fr_ne f656 h663)) kd i (LM_sub hl)
  have A_22 := agr_adu (k0 := 14) (i0 := 21) (q := q661) A_21 (hLn 14 21 (by decide) (by decide))
  refine mn_putF x hin hH hS f668 fq_md_74 rfl rfl (Nat.le_of_ble_eq_true rfl) (fs' := [.ref q367, .ref q381, .ref q395, .ref q409, .ref q423, .ref q437, .ref q451, .ref q465, .ref q479, .ref q493, .ref q507, .ref q521, .ref q535, .ref q549, .ref q563, .ref q577, .ref q591, .ref q605, .ref q619, .ref q633, .ref q647, .ref q661, .int 0, .null, .int 0, .int 0, .int 0, .int 0]) rfl dd_md_init_196 (fun σ672 f670 o671 H locs hH hS => ?_)
  have fr673 := FRM_A fr669 o671
  have P674 := LayP_keep R_21 (fun kd i hl => o671 _ (na_22 kd i hl))
  refine lv_aload_n x.1 x.2.1 dd_md_init_199 rfl (lv_at hl 0 rfl) ?_
  refine lv_bipush (v := nI 34) x.1 x.2.1 dd_md_init_200 (by decide +kernel) ?_
  refine mn_newi x hH hS hB ww_102 (by decide) (Nat.le_trans (Nat.le_of_ble_eq_true rfl) hce) (Nat.le_trans (Nat.le_of_ble_eq_true rfl) hsl) dd_md_init_202 (fun q675 σ676 h677 f678 o679 H hH hS => ?_)
  have z680 := FRM_old fr673 f670 h677
  have ne681 := fr_ne f670 h677
  have f682 := (o679 _ (ne681)).trans f670
  have fr683 := FRM_N fr673 z680 o679
  have P_s := LayP_sub P674 (fun kd i hl => LM_skip hl)
  have na_s : NOT (LM L 23) (adu (adu (adu (adu (adu (adu (adu (adu (adu (adu (adu (adu (adu (adu (adu (adu (adu (adu (adu (adu (adu (adu ad 14 0 q367) 14 1 q381) 14 2 q395) 14 3 q409) 14 4 q423) 14 5 q437) 14 6 q451) 14 7 q465) 14 8 q479) 14 9 q493) 14 10 q507) 14 11 q521) 14 12 q535) 14 13 q549) 14 14 q563) 14 15 q577) 14 16 q591) 14 17 q605) 14 18 q619) 14 19 q633) 14 20 q647) 14 21 q661) a := fun kd i hl => na_22 kd i (LM_skip hl)
  have n_23 := NOT_new P_s h677
  have Q_23 := LayP_keep P_s (fun kd i hl => o679 _ (n_23 kd i hl))
  have R_23 := LayP_sub (LayP_one (k0 := 14) (i0 := 23) (q := q675) Q_23 f678 n_23 (LM_no hLn) (LM_rf hLn)) (fun kd i hl => LM_sub hl)
  have na_24 : NOT (LM L 24) (adu (adu (adu (adu (adu (adu (adu (adu (adu (adu (adu (adu (adu (adu (adu (adu (adu (adu (adu (adu (adu (adu (adu ad 14 0 q367) 14 1 q381) 14 2 q395) 14 3 q409) 14 4 q423) 14 5 q437) 14 6 q451) 14 7 q465) 14 8 q479) 14 9 q493) 14 10 q507) 14 11 q521) 14 12 q535) 14 13 q549) 14 14 q563) 14 15 q577) 14 16 q591) 14 17 q605) 14 18 q619) 14 19 q633) 14 20 q647) 14 21 q661) 14 23 q675) a := fun kd i hl => NOT_adu (k0 := 14) (i0 := 23) (q := q675) na_s (LM_no hLn) (Ne.symm (fr_ne f670 h677)) kd i (LM_sub hl)
  have A_24 := agr_adu (k0 := 14) (i0 := 23) (q := q675) A_22 (hLn 14 23 (by decide) (by decide))
  refine mn_putF x hin hH hS f682 fq_md_77 rfl rfl (Nat.le_of_ble_eq_true rfl) (fs' := [.ref q367, .ref q381, .ref q395, .ref q409, .ref q423, .ref q437, .ref q451, .ref q465, .ref q479, .ref q493, .ref q507, .ref q521, .ref q535, .ref q549, .ref q563, .ref q577, .ref q591, .ref q605, .ref q619, .ref q633, .ref q647, .ref q661, .int 0, .ref q675, .int 0, .int 0, .int 0, .int 0]) rfl dd_md_init_204 (fun σ686 f684 o685 H locs hH hS => ?_)
  have fr687 := FRM_A fr683 o685
  have P688 := LayP_keep R_23 (fun kd i hl => o685 _ (na_24 kd i hl))
  have l13 : ¬ LM L 24 13 0 := fun z => z.elim (hLn 13 0 (by decide) (by decide)) (fun z => absurd z.1 (by decide))
  have fin := LayP_one (k0 := 13) (i0 := 0) (q := a) P688 f684 na_24 l13 (fun kd i _ => by unfold rfs; omega)
  exact mp_rv x hr hlk (by decide) (by decide) hH hS (fun _ => ⟨rfl, _, fin, agr_adu A_24 (hLn 13 0 (by decide) (by decide)), adu_s, fr687⟩) dd_md_init_207
set_option maxRecDepth 100000 in
set_option maxHeartbeats 4000000 in
theorem kk_sg_init {l : Launch} {D : va_G} {ar : Nat → ClassId} {base : Nat} {σ : mp_M} {a : Nat} (h0 : σ a = some (.inr (6, [.null, .null, .null, .int 0]))) : CN l D ar base yy_sg_init prog_1_method_1_code 1 (Option.none : Option Jvm.ClassFile.FieldType) [] 4 56 313 2504 [.ref a] σ (fun o σ' _ => o = .returned none ∧ ∃ ad' : Nat → Nat → Nat, LayP LG ar ad' (fun _ => false) (fun q => q) V0 M0 σ' ∧ ad' 0 0 = a ∧ FRM a σ σ') := by
  refine mp_in (Nat.le_of_ble_eq_true rfl) ?_
  intro p e R s m below meth c x hfr hlo hce hsl hr hlk hin hex hG hB ls H hH0 hH hS hl
  have hl : lv_has ls 1 [(0, .ref a)] := hl
  have fr0 := @FRM_id σ a
  refine lv_aload_n x.1 x.2.1 dd_sg_init_0 rfl (lv_at hl 0 rfl) ?_
  refine W.objInit x.1 x.2.1 x.2.2.2.1 (x.2.2.2.2.1 _ ww_74) (x.2.2.2.2.1 _ ww_75) (x.2.2.2.2.1 _ ww_76) rfl (hl.1.trans x.2.2.1.symm) rfl dd_sg_init_1 (Nat.le_trans (Nat.le_of_ble_eq_true rfl) hfr) (Nat.le_trans (Nat.le_of_ble_eq_true rfl) hlo) ?_
  refine W.eq (g2 := F0 m 4 ls []) rfl ?_
  refine lv_aload_n x.1 x.2.1 dd_sg_init_4 rfl (lv_at hl 0 rfl) ?_
  refine lv_bipush (v := nI 20) x.1 x.2.1 dd_sg_init_5 (by decide +kernel) ?_
  refine mn_newq x hH hS hB ww_77 ww_78 3 rfl (by decide) (Nat.le_trans (Nat.le_of_ble_eq_true rfl) hce) (Nat.le_trans (Nat.le_of_ble_eq_true rfl) hsl) dd_sg_init_7 (fun q689 σ690 h691 f692 o693 H hH hS => ?_)
  have z694 := FRM_old fr0 h0 h691
  have ne695 := fr_ne h0 h691
  have f696 := (o693 _ (ne695)).trans h0
  have fr697 := FRM_N fr0 z694 o693
  refine mn_putF x hin hH hS f696 fq_sg_11 rfl rfl (Nat.le_of_ble_eq_true rfl) (fs' := [.ref q689, .null, .null, .int 0]) rfl dd_sg_init_10 (fun σ700 f698 o699 H locs hH hS => ?_)
  have f701 := (o699 _ (Ne.symm ne695)).trans f692
  have fr702 := FRM_A fr697 o699
  refine lv_aload_n x.1 x.2.1 dd_sg_init_13 rfl (lv_at hl 0 rfl) ?_
  refine mn_new (ci := 1) (fs := [.int 0, .int 0, .null, .null, .int 0, .int 0, .int 0, .int 0]) x hH hS hB cf_dk co_dk ci_dk ww_79 ww_80 ww_55 rfl df_dk (Nat.le_trans (Nat.le_of_ble_eq_true rfl) hce) (Nat.le_trans (Nat.le_of_ble_eq_true rfl) hsl) dd_sg_init_14 (fun q703 σ704 h705 f706 o707 H hH hS => ?_)
  have z708 := FRM_old fr702 f698 h705
  have ne709 := fr_ne f701 h705
  have ne710 := fr_ne f698 h705
  have f711 := (o707 _ (ne709)).trans f701
  have f712 := (o707 _ (ne710)).trans f698
  have fr713 := FRM_N fr702 z708 o707
  refine lv_dup x.1 x.2.1 dd_sg_init_17 rfl ?_
  refine lv_iconst (v := (-1)) x.1 x.2.1 dd_sg_init_18 (by decide +kernel) ?_
  refine lv_iconst (v := (-1)) x.1 x.2.1 dd_sg_init_19 (by decide +kernel) ?_
  refine mp_call x (wt_mv base) hG hB hl.1 (mp_invI (av := [.int (-1), .int (-1)]) x mn_dk_init rfl ww_83 (Or.inr ⟨_, ww_81⟩) ww_82 rfl dd_sg_init_20) (kk_dk_init f706) (Nat.le_trans (Nat.le_of_ble_eq_true rfl) hfr) (Nat.le_trans (Nat.le_of_ble_eq_true rfl) hlo) (Nat.le_trans (Nat.le_of_ble_eq_true rfl) hce) (Nat.le_trans (Nat.le_of_ble_eq_true rfl) hsl) hH hS (fun v σa t H locs hp714 ht hvm hz hH hS => ?_) (fun _ _ _ _ _ hz _ _ _ _ _ => by cases hz.1)
  obtain ⟨ho, b715, b716, b717, h718, h719, h720, ne721, ne722, ne723, f724, f725, f726, f727, o728⟩ := hp714
  cases ho
  have z729 := FRM_old fr713 f712 h718
  have ne730 := fr_ne f711 h718
  have ne731 := fr_ne f712 h718
  have ne732 := fr_ne f706 h718
  have z733 := FRM_old fr713 f712 h719
  have ne734 := fr_ne f711 h719
  have ne735 := fr_ne f712 h719
  have ne736 := fr_ne f706 h719
  have z737 := FRM_old fr713 f712 h720
  have ne738 := fr_ne f711 h720
  have ne739 := fr_ne f712 h720
  have ne740 := fr_ne f706 h720
  have f741 := FRM_f o728 f711 (ne709)
  have f742 := FRM_f o728 f712 (ne710)
  have fr743 := FRM_C fr713 z708 o728
  refine W.eq (g2 := F0 m 23 ls [.ref q703, .ref a]) rfl ?_
  obtain ⟨g1, g2, g3⟩ := LayP_newdesk (L := fun _ _ => False) (ad := fun _ _ => 0) (rg := fun _ => false) (pl := fun q => q) (V := V0) (M := M0) (t := 500) ⟨fun _ _ h => h.elim, fun _ _ _ _ h => h.elim⟩ h705 f706 o707 h718 h719 h720 ne721 ne722 ne723 f724 f725 f726 f727 o728 ⟨rfl, rfl, nI_0.symm, nI_0.symm, rfl, nI_0.symm, nI_0.symm, rfl, nI_0.symm, rfl, nI_0.symm, nI_0.symm, nI_0.symm, nI_0.symm, nI_0.symm, rfl⟩ (fun _ _ _ h => h) (fun _ _ _ h => h.elim)
  obtain ⟨na1, -⟩ := g2 a _ f698 (fun _ _ h => h.elim)
  obtain ⟨nq1, -⟩ := g2 q689 _ f701 (fun _ _ h => h.elim)
  refine mn_putF x hin hH hS f742 fq_sg_20 rfl rfl (Nat.le_of_ble_eq_true rfl) (fs' := [.ref q689, .ref q703, .null, .int 0]) rfl dd_sg_init_23 (fun σ746 f744 o745 H locs hH hS => ?_)
  have f747 := (o745 _ (Ne.symm ne695)).trans f741
  have f748 := (o745 _ (Ne.symm ne710)).trans f724
  have f749 := (o745 _ (Ne.symm ne731)).trans f725
  have f750 := (o745 _ (Ne.symm ne735)).trans f726
  have f751 := (o745 _ (Ne.symm ne739)).trans f727
  have fr752 := FRM_A fr743 o745
  have P1 := LayP_keep g1 (fun kd i hl => o745 _ (na1 kd i hl))
  refine lv_aload_n x.1 x.2.1 dd_sg_init_26 rfl (lv_at hl 0 rfl) ?_
  refine mn_new (ci := 3) (fs := [.null, .null, .null, .int 0, .int 0, .int 0, .int 0, .int 0]) x hH hS hB cf_lr co_lr ci_lr ww_184 ww_185 ww_58 rfl df_lr (Nat.le_trans (Nat.le_of_ble_eq_true rfl) hce) (Nat.le_trans (Nat.le_of_ble_eq_true rfl) hsl) dd_sg_init_27 (fun q753 σ754 h755 f756 o757 H hH hS => ?_)
  have z758 := FRM_old fr752 f744 h755
  have ne759 := fr_ne f747 h755
  have ne760 := fr_ne f748 h755
  have ne761 := fr_ne f749 h755
  have ne762 := fr_ne f750 h755
  have ne763 := fr_ne f751 h755
  have ne764 := fr_ne f744 h755
  have f765 := (o757 _ (ne759)).trans f747
  have f766 := (o757 _ (ne760)).trans f748
  have f767 := (o757 _ (ne761)).trans f749
  have f768 := (o757 _ (ne762)).trans f750
  have f769 := (o757 _ (ne763)).trans f751
  have f770 := (o757 _ (ne764)).trans f744
  have fr771 := FRM_N fr752 z758 o757
  have n2 := NOT_new P1 h755
  have P2 := LayP_keep P1 (fun kd i hl => o757 _ (n2 kd i hl))
  refine lv_dup x.1 x.2.1 dd_sg_init_30 rfl ?_
  refine mp_call x (wt_mv base) hG hB hl.1 (mp_invI (av := []) x mn_lr_init rfl ww_188 (Or.inr ⟨_, ww_186⟩) ww_187 rfl dd_sg_init_31) (kk_lr_init f756 P2 n2 LE_no LE_rf TV_0) (Nat.le_trans (Nat.le_of_ble_eq_true rfl) hfr) (Nat.le_trans (Nat.le_of_ble_eq_true rfl) hlo) (Nat.le_trans (Nat.le_of_ble_eq_true rfl) hce) (Nat.le_trans (Nat.le_of_ble_eq_true rfl) hsl) hH hS (fun v σa t H locs hp772 ht hvm hz hH hS => ?_) (fun _ _ _ _ _ hz _ _ _ _ _ => by cases hz.1)
  obtain ⟨ho, ad', q3, P3, A3, n3a, n3q, ne32, c2, c3, z3, hQ3, o3⟩ := hp772
  cases ho
  have na2 := hQ3 a _ (ne764) f770 na1
  have nq2 := hQ3 q689 _ (ne759) f765 nq1
  have z773 := FRM_old fr771 f770 z3
  have ne774 := fr_ne f765 z3
  have ne775 := fr_ne f766 z3
  have ne776 := fr_ne f767 z3
  have ne777 := fr_ne f768 z3
  have ne778 := fr_ne f769 z3
  have ne779 := fr_ne f770 z3
  have ne780 := fr_ne f756 z3
  have f781 := FRM_f o3 f765 (ne759)
  have f782 := FRM_f o3 f766 (ne760)
  have f783 := FRM_f o3 f767 (ne761)
  have f784 := FRM_f o3 f768 (ne762)
  have f785 := FRM_f o3 f769 (ne763)
  have f786 := FRM_f o3 f770 (ne764)
  have fr787 := FRM_C fr771 z758 o3
  refine W.eq (g2 := F0 m 34 ls [.ref q753, .ref a]) rfl ?_
  refine mn_putF x hin hH hS f786 fq_sg_27 rfl rfl (Nat.le_of_ble_eq_true rfl) (fs' := [.ref q689, .ref q703, .ref q753, .int 0]) rfl dd_sg_init_34 (fun σ790 f788 o789 H locs hH hS => ?_)
  have f791 := (o789 _ (Ne.symm ne695)).trans f781
  have f792 := (o789 _ (Ne.symm ne710)).trans f782
  have f793 := (o789 _ (Ne.symm ne731)).trans f783
  have f794 := (o789 _ (Ne.symm ne735)).trans f784
  have f795 := (o789 _ (Ne.symm ne739)).trans f785
  have f796 := (o789 _ (Ne.symm ne764)).trans c2
  have f797 := (o789 _ (Ne.symm ne779)).trans c3
  have fr798 := FRM_A fr787 o789
  have P4 := LayP_keep P3 (fun kd i hl => o789 _ (na2 kd i hl))
  refine lv_aload_n x.1 x.2.1 dd_sg_init_37 rfl (lv_at hl 0 rfl) ?_
  refine lv_ldc (v := 33554431) x.1 x.2.1 x.2.2.2.1 (x.2.2.2.2.1 _ ww_271) dd_sg_init_38 ?_
  refine mn_put x hH hS f788 fp_sg_32 rfl rfl (Nat.le_of_ble_eq_true rfl) (fs' := [.ref q689, .ref q703, .ref q753, .int 33554431]) rfl dd_sg_init_40 (fun σ801 f799 o800 H locs hH hS => ?_)
  have f802 := (o800 _ (Ne.symm ne695)).trans f791
  have f803 := (o800 _ (Ne.symm ne710)).trans f792
  have f804 := (o800 _ (Ne.symm ne731)).trans f793
  have f805 := (o800 _ (Ne.symm ne735)).trans f794
  have f806 := (o800 _ (Ne.symm ne739)).trans f795
  have f807 := (o800 _ (Ne.symm ne764)).trans f796
  have f808 := (o800 _ (Ne.symm ne779)).trans f797
  have fr809 := FRM_A fr798 o800
  have P5 := LayP_keep P4 (fun kd i hl => o800 _ (na2 kd i hl))
  have e9 : ad' 9 500 = q703 := (A3 9 500 (Or.inr ⟨rfl, rfl⟩)).trans adu_s
  have s3 := LayP_one (k0 := 3) (i0 := 0) (q := q3) P5 f808 n3q (LR_no 3 0 (by decide)) (LR_rf (by decide))
  have n31 := NOT_adu (k0 := 3) (i0 := 0) (q := q3) n3a (LR_no 3 0 (by decide)) ne32
  have n32 := NOT_adu (k0 := 3) (i0 := 0) (q := q3) nq2 (LR_no 3 0 (by decide)) (Ne.symm ne774)
  have n33 := NOT_adu (k0 := 3) (i0 := 0) (q := q3) na2 (LR_no 3 0 (by decide)) (Ne.symm ne779)
  have l2 := LO_no (LR_no 2 0 (by decide)) (show ¬ ((2 : Nat) = 3 ∧ 0 = 0) by decide)
  have s2 := LayP_one (k0 := 2) (i0 := 0) (q := q753) s3 f807 n31 l2 (LO_rf (LR_rf (by decide)) (by unfold rfs; omega))
  have n21 := NOT_adu (k0 := 2) (i0 := 0) (q := q753) n32 l2 (Ne.symm ne759)
  have n22 := NOT_adu (k0 := 2) (i0 := 0) (q := q753) n33 l2 (Ne.symm ne764)
  have l1 := LO_no (LO_no (LR_no 1 0 (by decide)) (show ¬ ((1 : Nat) = 3 ∧ 0 = 0) by decide)) (show ¬ ((1 : Nat) = 2 ∧ 0 = 0) by decide)
  have s1 := LayP_one (k0 := 1) (i0 := 0) (q := q689) s2 f802 n21 l1 (LO_rf (LO_rf (LR_rf (by decide)) (by unfold rfs; omega)) (by unfold rfs; omega))
  have n11 := NOT_adu (k0 := 1) (i0 := 0) (q := q689) n22 l1 (Ne.symm ne695)
  have l0 := LO_no (LO_no (LO_no (LR_no 0 0 (by decide)) (show ¬ ((0 : Nat) = 3 ∧ 0 = 0) by decide)) (show ¬ ((0 : Nat) = 2 ∧ 0 = 0) by decide)) (show ¬ ((0 : Nat) = 1 ∧ 0 = 0) by decide)
  have s0 := LayP_one (k0 := 0) (i0 := 0) (q := a) s1 (by
      rw [f799]
      show some (.inr (6, [.ref q689, .ref q703, .ref q753, .int 33554431]) : va_E) = some (.inr (6, [.ref q689, .ref (ad' 9 500), .ref q753, .int 33554431]))
      rw [e9]) n11 l0 (LO_rf (LO_rf (LO_rf (LR_rf (by decide)) (by unfold rfs; omega)) (by unfold rfs; omega)) (by unfold rfs; omega))
  exact mp_rv x hr hlk (by decide) (by decide) hH hS (fun _ => ⟨rfl, _, LayP_sub s0 (fun kd i hl => LG_sub hl), adu_s, fr809⟩) dd_sg_init_43
