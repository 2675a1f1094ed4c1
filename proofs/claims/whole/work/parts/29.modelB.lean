/-! THE MODEL's rounds, promises and letters that come. -/
def bt (v : Int32) (k : Nat) : Prop := (v >>> (nI k &&& 31)) &&& nI 1 = nI 1
theorem bt_dec (v : Int32) (k : Nat) : bt v k ∨ ¬ bt v k := Classical.em _
noncomputable def anc (v : Int32) (c0 : Nat) : Nat → Nat
  | 0 => 0
  | r + 1 => if anc v c0 r = 1 then 1 else if (v >>> (nI (5 * r + c0) &&& 31)) &&& nI 1 = nI 1 then 1 else 0
noncomputable def alc (v : Int32) (c0 : Nat) : Nat → Nat
  | 0 => 1
  | r + 1 => if alc v c0 r = 0 then 0 else if (v >>> (nI (5 * r + c0) &&& 31)) &&& nI 1 = nI 1 then 1 else 0
theorem anc_le (v : Int32) (c0 r : Nat) : anc v c0 r ≤ 1 := by
  cases r with
  | zero => exact Nat.zero_le _
  | succ r =>
    unfold anc
    (repeat' split) <;> omega
theorem alc_le (v : Int32) (c0 r : Nat) : alc v c0 r ≤ 1 := by
  cases r with
  | zero => exact Nat.le_refl _
  | succ r =>
    unfold alc
    (repeat' split) <;> omega
noncomputable def hec (v : Int32) : Int32 := if anc v 0 5 = 1 ∧ anc v 1 5 = 1 ∧ anc v 2 5 = 1 ∧ anc v 3 5 = 1 ∧ anc v 4 5 = 1 then nI 1 else nI 0
noncomputable def hwm (v : Int32) : Int32 := if alc v 0 5 = 1 ∨ alc v 1 5 = 1 ∨ alc v 2 5 = 1 ∨ alc v 3 5 = 1 ∨ alc v 4 5 = 1 then nI 1 else nI 0
theorem hec_p {v : Int32} (h : ∀ q, q < 5 → anc v q 5 = 1) : nI 1 = hec v := by
  unfold hec
  rw [if_pos ⟨h 0 (by decide), h 1 (by decide), h 2 (by decide), h 3 (by decide), h 4 (by decide)⟩]
theorem hec_n {v : Int32} {c0 : Nat} (hc : c0 < 5) (h : anc v c0 5 = 0) : nI 0 = hec v := by
  unfold hec
  rw [if_neg]
  rintro ⟨h0, h1, h2, h3, h4⟩
  have : c0 = 0 ∨ c0 = 1 ∨ c0 = 2 ∨ c0 = 3 ∨ c0 = 4 := by omega
  rcases this with rfl | rfl | rfl | rfl | rfl <;> omega
theorem hwm_p {v : Int32} {c0 : Nat} (hc : c0 < 5) (h : alc v c0 5 = 1) : nI 1 = hwm v := by
  unfold hwm
  rw [if_pos]
  have : c0 = 0 ∨ c0 = 1 ∨ c0 = 2 ∨ c0 = 3 ∨ c0 = 4 := by omega
  rcases this with rfl | rfl | rfl | rfl | rfl <;> omega
theorem hwm_n {v : Int32} (h : ∀ q, q < 5 → alc v q 5 = 0) : nI 0 = hwm v := by
  unfold hwm
  have h0 := h 0 (by decide)
  have h1 := h 1 (by decide)
  have h2 := h 2 (by decide)
  have h3 := h 3 (by decide)
  have h4 := h 4 (by decide)
  rw [if_neg (by omega)]
set_option maxRecDepth 100000 in
set_option maxHeartbeats 4000000 in
theorem kk_M_hec {l : Launch} {D : va_G} {ar : Nat → ClassId} {base : Nat} {σ : mp_M} {ad : Nat → Nat → Nat} {rg : Nat → Bool} {pl : Nat → Nat} {V M : fV} {v : Int32} (hL : Lay ar ad rg pl V M σ)  : CN l D ar base yy_md_hasEachColumn prog_9_method_16_code 5 (Option.some Jvm.ClassFile.FieldType.boolean) [] 0 0 0 0 [.ref (ad 13 0), .int v] σ (fun o σ' _ => o = .returned (some (.int (hec v))) ∧ Lay ar ad rg pl V M σ') := by
  refine mp_in (Nat.le_of_ble_eq_true rfl) ?_
  intro p e R s m below meth c x hfr hlo hce hsl hr hlk hin hex hG hB ls H hH0 hH hS hl
  have hl : lv_has ls 5 [(0, .ref (ad 13 0)), (1, .int v)] := hl
  refine lv_iconst (v := nI 0) x.1 x.2.1 dd_md_hasEachColumn_0 (by decide +kernel) ?_
  refine lv_istore_n (lv' := [(2, .int (nI 0)), (0, .ref (ad 13 0)), (1, .int v)]) x.1 x.2.1 dd_md_hasEachColumn_1 rfl hl (by decide) rfl (fun ls hl => ?_)
  have loop344 : ∀ (n345 : Nat) (c0 : Nat) (σ : mp_M), c0 ≤ 5 → (∀ q, q < c0 → anc v q 5 = 1) → Lay ar ad rg pl V M σ → 5 - c0 < n345 → ∀ (ls : Array Slot) (H : Heap) (locs : List Loc), lv_has ls 5 [(1, .int v), (2, .int (nI c0))] → HH D base σ H → va_S (mp_A base) s.heap H locs → W p l e R s m [.ref (ad 13 0), .int v].toArray below meth c H locs 0 0 (mp_Q below s 0 0 base (mp_P D cl_L base s (fun o σ' _ => o = .returned (some (.int (hec v))) ∧ Lay ar ad rg pl V M σ'))) (F0 m 2 ls []) := by
    intro n345
    induction n345 with
    | zero => intro c0 σ hc5 hall hL hmz; exact absurd hmz (Nat.not_lt_zero _)
    | succ n345 ihloop344 =>
      intro c0 σ hc5 hall hL hmz ls H locs hl hH hS
      refine lv_iload_n x.1 x.2.1 dd_md_hasEachColumn_2 rfl (lv_at hl 1 rfl) ?_
      refine lv_iconst (v := nI 5) x.1 x.2.1 dd_md_hasEachColumn_3 (by decide +kernel) ?_
      refine lv_icmp_ge (tgt := 60) x.1 x.2.1 dd_md_hasEachColumn_4 (by decide) (fun c346 => ?_) (fun c346 => ?_)
      · have c346 : 5 ≤ c0 := (cv_le (a := 5) (b := c0) (by omega) (by omega)).mp c346
        refine lv_iconst (v := nI 1) x.1 x.2.1 dd_md_hasEachColumn_60 (by decide +kernel) ?_
        exact mp_rz x hr (by decide) hlk (by decide) (by decide) hH hS (fun _ => ⟨(congrArg (fun z => Outcome.returned (some (.int z))) (hec_p (fun q hq => hall q (by omega)))), hL⟩) dd_md_hasEachColumn_61
      · have c346 : ¬ (5 ≤ c0) := fun h => c346 ((cv_le (a := 5) (b := c0) (by omega) (by omega)).mpr h)
        refine lv_iconst (v := nI 0) x.1 x.2.1 dd_md_hasEachColumn_7 (by decide +kernel) ?_
        refine lv_istore_n (lv' := [(3, .int (nI 0)), (1, .int v), (2, .int (nI c0))]) x.1 x.2.1 dd_md_hasEachColumn_8 rfl hl (by decide) rfl (fun ls hl => ?_)
        refine lv_iconst (v := nI 0) x.1 x.2.1 dd_md_hasEachColumn_9 (by decide +kernel) ?_
        refine lv_istore (lv' := [(4, .int (nI 0)), (3, .int (nI 0)), (1, .int v), (2, .int (nI c0))]) x.1 x.2.1 dd_md_hasEachColumn_10 hl (by decide) rfl (fun ls hl => ?_)
        have loop347 : ∀ (n348 : Nat) (r : Nat) (σ : mp_M), r ≤ 5 → Lay ar ad rg pl V M σ → 5 - r < n348 → ∀ (ls : Array Slot) (H : Heap) (locs : List Loc), lv_has ls 5 [(1, .int v), (2, .int (nI c0)), (3, .int (nI (anc v c0 r))), (4, .int (nI r))] → HH D base σ H → va_S (mp_A base) s.heap H locs → W p l e R s m [.ref (ad 13 0), .int v].toArray below meth c H locs 0 0 (mp_Q below s 0 0 base (mp_P D cl_L base s (fun o σ' _ => o = .returned (some (.int (hec v))) ∧ Lay ar ad rg pl V M σ'))) (F0 m 12 ls []) := by
          intro n348
          induction n348 with
          | zero => intro r σ hr5 hL hmz; exact absurd hmz (Nat.not_lt_zero _)
          | succ n348 ihloop347 =>
            intro r σ hr5 hL hmz ls H locs hl hH hS
            have hle := anc_le v c0 r
            refine lv_iload x.1 x.2.1 dd_md_hasEachColumn_12 (lv_at hl 3 rfl) ?_
            refine lv_iconst (v := nI 5) x.1 x.2.1 dd_md_hasEachColumn_14 (by decide +kernel) ?_
            refine lv_icmp_ge (tgt := 48) x.1 x.2.1 dd_md_hasEachColumn_15 (by decide) (fun c349 => ?_) (fun c349 => ?_)
            · have c349 : 5 ≤ r := (cv_le (a := 5) (b := r) (by omega) (by omega)).mp c349
              obtain rfl : r = 5 := by omega
              refine lv_iload_n x.1 x.2.1 dd_md_hasEachColumn_48 rfl (lv_at hl 2 rfl) ?_
              refine lv_if_ne (tgt := 54) x.1 x.2.1 dd_md_hasEachColumn_49 (by decide) (fun c350 => ?_) (fun c350 => ?_)
              · have c350 : ¬ (anc v c0 5 = 0) := fun h => c350 ((cv_eq (a := anc v c0 5) (b := 0) (by omega) (by omega)).mpr h)
                refine lv_iinc (v := nI (c0 + 1)) (lv' := [(2, .int (nI (c0 + 1))), (1, .int v), (3, .int (nI (anc v c0 5))), (4, .int (nI 5))]) x.1 x.2.1 dd_md_hasEachColumn_54 hl (k := 1) rfl (mn_inc _) (by decide) rfl (fun ls hl => ?_)
                refine lv_goto (tgt := 2) x.1 x.2.1 dd_md_hasEachColumn_57 (by decide) ?_
                exact ihloop344 (c0 + 1) _ (by omega) (fun q hq => by rcases Nat.lt_succ_iff_lt_or_eq.mp hq with h | h; exact hall q h; subst h; have := anc_le v q 5; omega) hL (by omega) ls H _ (lv_sub hl [1, 0] rfl) hH hS
              · have c350 : anc v c0 5 = 0 := (cv_eq (a := anc v c0 5) (b := 0) (by omega) (by omega)).mp c350
                refine lv_iconst (v := nI 0) x.1 x.2.1 dd_md_hasEachColumn_52 (by decide +kernel) ?_
                exact mp_rz x hr (by decide) hlk (by decide) (by decide) hH hS (fun _ => ⟨(congrArg (fun z => Outcome.returned (some (.int z))) (hec_n (c0 := c0) (by omega) (by omega))), hL⟩) dd_md_hasEachColumn_53
            · have c349 : ¬ (5 ≤ r) := fun h => c349 ((cv_le (a := 5) (b := r) (by omega) (by omega)).mpr h)
              refine lv_iload_n x.1 x.2.1 dd_md_hasEachColumn_18 rfl (lv_at hl 2 rfl) ?_
              refine lv_if_ne (tgt := 36) x.1 x.2.1 dd_md_hasEachColumn_19 (by decide) (fun c351 => ?_) (fun c351 => ?_)
              · have c351 : ¬ (anc v c0 r = 0) := fun h => c351 ((cv_eq (a := anc v c0 r) (b := 0) (by omega) (by omega)).mpr h)
                refine lv_iconst (v := nI 1) x.1 x.2.1 dd_md_hasEachColumn_36 (by decide +kernel) ?_
                refine lv_goto (tgt := 41) x.1 x.2.1 dd_md_hasEachColumn_37 (by decide) ?_
                refine mn_top (w := nI (anc v c0 (r + 1))) (by rw [anc, if_pos (by omega)]) ?_
                refine lv_istore_n (lv' := [(3, .int (nI (anc v c0 (r + 1)))), (1, .int v), (2, .int (nI c0)), (4, .int (nI r))]) x.1 x.2.1 dd_md_hasEachColumn_41 rfl hl (by decide) rfl (fun ls hl => ?_)
                refine lv_iinc (v := nI (r + 1)) (lv' := [(4, .int (nI (r + 1))), (3, .int (nI (anc v c0 (r + 1)))), (1, .int v), (2, .int (nI c0))]) x.1 x.2.1 dd_md_hasEachColumn_42 hl (k := 3) rfl (mn_inc _) (by decide) rfl (fun ls hl => ?_)
                refine lv_goto (tgt := 12) x.1 x.2.1 dd_md_hasEachColumn_45 (by decide) ?_
                exact ihloop347 (r + 1) _ (by omega) hL (by omega) ls H _ (lv_sub hl [2, 3, 1, 0] rfl) hH hS
              · have c351 : anc v c0 r = 0 := (cv_eq (a := anc v c0 r) (b := 0) (by omega) (by omega)).mp c351
                refine lv_iload_n x.1 x.2.1 dd_md_hasEachColumn_22 rfl (lv_at hl 0 rfl) ?_
                refine lv_iconst (v := nI 5) x.1 x.2.1 dd_md_hasEachColumn_23 (by decide +kernel) ?_
                refine lv_iload x.1 x.2.1 dd_md_hasEachColumn_24 (lv_at hl 3 rfl) ?_
                refine lv_imul x.1 x.2.1 dd_md_hasEachColumn_26 ?_
                refine mn_top (w := nI (5 * r)) (pk_mul _ _) ?_
                refine lv_iload_n x.1 x.2.1 dd_md_hasEachColumn_27 rfl (lv_at hl 1 rfl) ?_
                refine lv_iadd x.1 x.2.1 dd_md_hasEachColumn_28 ?_
                refine mn_top (w := nI (5 * r + c0)) (nI_add _ _) ?_
                refine lv_ishr x.1 x.2.1 dd_md_hasEachColumn_29 ?_
                refine lv_iconst (v := nI 1) x.1 x.2.1 dd_md_hasEachColumn_30 (by decide +kernel) ?_
                refine lv_iand x.1 x.2.1 dd_md_hasEachColumn_31 ?_
                refine lv_iconst (v := nI 1) x.1 x.2.1 dd_md_hasEachColumn_32 (by decide +kernel) ?_
                refine lv_icmp_ne (tgt := 40) x.1 x.2.1 dd_md_hasEachColumn_33 (by decide) (fun c352 => ?_) (fun c352 => ?_)
                · refine lv_iconst (v := nI 0) x.1 x.2.1 dd_md_hasEachColumn_40 (by decide +kernel) ?_
                  refine mn_top (w := nI (anc v c0 (r + 1))) (by rw [anc, if_neg (by omega), if_neg c352]) ?_
                  refine lv_istore_n (lv' := [(3, .int (nI (anc v c0 (r + 1)))), (1, .int v), (2, .int (nI c0)), (4, .int (nI r))]) x.1 x.2.1 dd_md_hasEachColumn_41 rfl hl (by decide) rfl (fun ls hl => ?_)
                  refine lv_iinc (v := nI (r + 1)) (lv' := [(4, .int (nI (r + 1))), (3, .int (nI (anc v c0 (r + 1)))), (1, .int v), (2, .int (nI c0))]) x.1 x.2.1 dd_md_hasEachColumn_42 hl (k := 3) rfl (mn_inc _) (by decide) rfl (fun ls hl => ?_)
                  refine lv_goto (tgt := 12) x.1 x.2.1 dd_md_hasEachColumn_45 (by decide) ?_
                  exact ihloop347 (r + 1) _ (by omega) hL (by omega) ls H _ (lv_sub hl [2, 3, 1, 0] rfl) hH hS
                · refine lv_iconst (v := nI 1) x.1 x.2.1 dd_md_hasEachColumn_36 (by decide +kernel) ?_
                  refine lv_goto (tgt := 41) x.1 x.2.1 dd_md_hasEachColumn_37 (by decide) ?_
                  refine mn_top (w := nI (anc v c0 (r + 1))) (by rw [anc, if_neg (by omega), if_pos c352]) ?_
                  refine lv_istore_n (lv' := [(3, .int (nI (anc v c0 (r + 1)))), (1, .int v), (2, .int (nI c0)), (4, .int (nI r))]) x.1 x.2.1 dd_md_hasEachColumn_41 rfl hl (by decide) rfl (fun ls hl => ?_)
                  refine lv_iinc (v := nI (r + 1)) (lv' := [(4, .int (nI (r + 1))), (3, .int (nI (anc v c0 (r + 1)))), (1, .int v), (2, .int (nI c0))]) x.1 x.2.1 dd_md_hasEachColumn_42 hl (k := 3) rfl (mn_inc _) (by decide) rfl (fun ls hl => ?_)
                  refine lv_goto (tgt := 12) x.1 x.2.1 dd_md_hasEachColumn_45 (by decide) ?_
                  exact ihloop347 (r + 1) _ (by omega) hL (by omega) ls H _ (lv_sub hl [2, 3, 1, 0] rfl) hH hS
        exact loop347 _ 0 _ (by decide) hL (Nat.lt_succ_self _) ls H _ (lv_sub hl [2, 3, 1, 0] rfl) hH hS
  exact loop344 _ 0 _ (by decide) (fun q hq => absurd hq (Nat.not_lt_zero _)) hL (Nat.lt_succ_self _) ls H _ (lv_sub hl [2, 0] rfl) hH hS
set_option maxRecDepth 100000 in
set_option maxHeartbeats 4000000 in
theorem kk_M_hwc {l : Launch} {D : va_G} {ar : Nat → ClassId} {base : Nat} {σ : mp_M} {ad : Nat → Nat → Nat} {rg : Nat → Bool} {pl : Nat → Nat} {V M : fV} {v : Int32} (hL : Lay ar ad rg pl V M σ)  : CN l D ar base yy_md_hasWholeColumn prog_9_method_17_code 5 (Option.some Jvm.ClassFile.FieldType.boolean) [] 0 0 0 0 [.ref (ad 13 0), .int v] σ (fun o σ' _ => o = .returned (some (.int (hwm v))) ∧ Lay ar ad rg pl V M σ') := by
  refine mp_in (Nat.le_of_ble_eq_true rfl) ?_
  intro p e R s m below meth c x hfr hlo hce hsl hr hlk hin hex hG hB ls H hH0 hH hS hl
  have hl : lv_has ls 5 [(0, .ref (ad 13 0)), (1, .int v)] := hl
  refine lv_iconst (v := nI 0) x.1 x.2.1 dd_md_hasWholeColumn_0 (by decide +kernel) ?_
  refine lv_istore_n (lv' := [(2, .int (nI 0)), (0, .ref (ad 13 0)), (1, .int v)]) x.1 x.2.1 dd_md_hasWholeColumn_1 rfl hl (by decide) rfl (fun ls hl => ?_)
  have loop353 : ∀ (n354 : Nat) (c0 : Nat) (σ : mp_M), c0 ≤ 5 → (∀ q, q < c0 → alc v q 5 = 0) → Lay ar ad rg pl V M σ → 5 - c0 < n354 → ∀ (ls : Array Slot) (H : Heap) (locs : List Loc), lv_has ls 5 [(1, .int v), (2, .int (nI c0))] → HH D base σ H → va_S (mp_A base) s.heap H locs → W p l e R s m [.ref (ad 13 0), .int v].toArray below meth c H locs 0 0 (mp_Q below s 0 0 base (mp_P D cl_L base s (fun o σ' _ => o = .returned (some (.int (hwm v))) ∧ Lay ar ad rg pl V M σ'))) (F0 m 2 ls []) := by
    intro n354
    induction n354 with
    | zero => intro c0 σ hc5 hall hL hmz; exact absurd hmz (Nat.not_lt_zero _)
    | succ n354 ihloop353 =>
      intro c0 σ hc5 hall hL hmz ls H locs hl hH hS
      refine lv_iload_n x.1 x.2.1 dd_md_hasWholeColumn_2 rfl (lv_at hl 1 rfl) ?_
      refine lv_iconst (v := nI 5) x.1 x.2.1 dd_md_hasWholeColumn_3 (by decide +kernel) ?_
      refine lv_icmp_ge (tgt := 60) x.1 x.2.1 dd_md_hasWholeColumn_4 (by decide) (fun c355 => ?_) (fun c355 => ?_)
      · have c355 : 5 ≤ c0 := (cv_le (a := 5) (b := c0) (by omega) (by omega)).mp c355
        refine lv_iconst (v := nI 0) x.1 x.2.1 dd_md_hasWholeColumn_60 (by decide +kernel) ?_
        exact mp_rz x hr (by decide) hlk (by decide) (by decide) hH hS (fun _ => ⟨(congrArg (fun z => Outcome.returned (some (.int z))) (hwm_n (fun q hq => hall q (by omega)))), hL⟩) dd_md_hasWholeColumn_61
      · have c355 : ¬ (5 ≤ c0) := fun h => c355 ((cv_le (a := 5) (b := c0) (by omega) (by omega)).mpr h)
        refine lv_iconst (v := nI 1) x.1 x.2.1 dd_md_hasWholeColumn_7 (by decide +kernel) ?_
        refine lv_istore_n (lv' := [(3, .int (nI 1)), (1, .int v), (2, .int (nI c0))]) x.1 x.2.1 dd_md_hasWholeColumn_8 rfl hl (by decide) rfl (fun ls hl => ?_)
        refine lv_iconst (v := nI 0) x.1 x.2.1 dd_md_hasWholeColumn_9 (by decide +kernel) ?_
        refine lv_istore (lv' := [(4, .int (nI 0)), (3, .int (nI 1)), (1, .int v), (2, .int (nI c0))]) x.1 x.2.1 dd_md_hasWholeColumn_10 hl (by decide) rfl (fun ls hl => ?_)
        have loop356 : ∀ (n357 : Nat) (r : Nat) (σ : mp_M), r ≤ 5 → Lay ar ad rg pl V M σ → 5 - r < n357 → ∀ (ls : Array Slot) (H : Heap) (locs : List Loc), lv_has ls 5 [(1, .int v), (2, .int (nI c0)), (3, .int (nI (alc v c0 r))), (4, .int (nI r))] → HH D base σ H → va_S (mp_A base) s.heap H locs → W p l e R s m [.ref (ad 13 0), .int v].toArray below meth c H locs 0 0 (mp_Q below s 0 0 base (mp_P D cl_L base s (fun o σ' _ => o = .returned (some (.int (hwm v))) ∧ Lay ar ad rg pl V M σ'))) (F0 m 12 ls []) := by
          intro n357
          induction n357 with
          | zero => intro r σ hr5 hL hmz; exact absurd hmz (Nat.not_lt_zero _)
          | succ n357 ihloop356 =>
            intro r σ hr5 hL hmz ls H locs hl hH hS
            have hle := alc_le v c0 r
            refine lv_iload x.1 x.2.1 dd_md_hasWholeColumn_12 (lv_at hl 3 rfl) ?_
            refine lv_iconst (v := nI 5) x.1 x.2.1 dd_md_hasWholeColumn_14 (by decide +kernel) ?_
            refine lv_icmp_ge (tgt := 48) x.1 x.2.1 dd_md_hasWholeColumn_15 (by decide) (fun c358 => ?_) (fun c358 => ?_)
            · have c358 : 5 ≤ r := (cv_le (a := 5) (b := r) (by omega) (by omega)).mp c358
              obtain rfl : r = 5 := by omega
              refine lv_iload_n x.1 x.2.1 dd_md_hasWholeColumn_48 rfl (lv_at hl 2 rfl) ?_
              refine lv_if_eq (tgt := 54) x.1 x.2.1 dd_md_hasWholeColumn_49 (by decide) (fun c359 => ?_) (fun c359 => ?_)
              · have c359 : alc v c0 5 = 0 := (cv_eq (a := alc v c0 5) (b := 0) (by omega) (by omega)).mp c359
                refine lv_iinc (v := nI (c0 + 1)) (lv' := [(2, .int (nI (c0 + 1))), (1, .int v), (3, .int (nI (alc v c0 5))), (4, .int (nI 5))]) x.1 x.2.1 dd_md_hasWholeColumn_54 hl (k := 1) rfl (mn_inc _) (by decide) rfl (fun ls hl => ?_)
                refine lv_goto (tgt := 2) x.1 x.2.1 dd_md_hasWholeColumn_57 (by decide) ?_
                exact ihloop353 (c0 + 1) _ (by omega) (fun q hq => by rcases Nat.lt_succ_iff_lt_or_eq.mp hq with h | h; exact hall q h; subst h; have := alc_le v q 5; omega) hL (by omega) ls H _ (lv_sub hl [1, 0] rfl) hH hS
              · have c359 : ¬ (alc v c0 5 = 0) := fun h => c359 ((cv_eq (a := alc v c0 5) (b := 0) (by omega) (by omega)).mpr h)
                refine lv_iconst (v := nI 1) x.1 x.2.1 dd_md_hasWholeColumn_52 (by decide +kernel) ?_
                exact mp_rz x hr (by decide) hlk (by decide) (by decide) hH hS (fun _ => ⟨(congrArg (fun z => Outcome.returned (some (.int z))) (hwm_p (c0 := c0) (by omega) (by have := alc_le v c0 5; omega))), hL⟩) dd_md_hasWholeColumn_53
            · have c358 : ¬ (5 ≤ r) := fun h => c358 ((cv_le (a := 5) (b := r) (by omega) (by omega)).mpr h)
              refine lv_iload_n x.1 x.2.1 dd_md_hasWholeColumn_18 rfl (lv_at hl 2 rfl) ?_
              refine lv_if_eq (tgt := 40) x.1 x.2.1 dd_md_hasWholeColumn_19 (by decide) (fun c360 => ?_) (fun c360 => ?_)
              · have c360 : alc v c0 r = 0 := (cv_eq (a := alc v c0 r) (b := 0) (by omega) (by omega)).mp c360
                refine lv_iconst (v := nI 0) x.1 x.2.1 dd_md_hasWholeColumn_40 (by decide +kernel) ?_
                refine mn_top (w := nI (alc v c0 (r + 1))) (by rw [alc, if_pos (by omega)]) ?_
                refine lv_istore_n (lv' := [(3, .int (nI (alc v c0 (r + 1)))), (1, .int v), (2, .int (nI c0)), (4, .int (nI r))]) x.1 x.2.1 dd_md_hasWholeColumn_41 rfl hl (by decide) rfl (fun ls hl => ?_)
                refine lv_iinc (v := nI (r + 1)) (lv' := [(4, .int (nI (r + 1))), (3, .int (nI (alc v c0 (r + 1)))), (1, .int v), (2, .int (nI c0))]) x.1 x.2.1 dd_md_hasWholeColumn_42 hl (k := 3) rfl (mn_inc _) (by decide) rfl (fun ls hl => ?_)
                refine lv_goto (tgt := 12) x.1 x.2.1 dd_md_hasWholeColumn_45 (by decide) ?_
                exact ihloop356 (r + 1) _ (by omega) hL (by omega) ls H _ (lv_sub hl [2, 3, 1, 0] rfl) hH hS
              · have c360 : ¬ (alc v c0 r = 0) := fun h => c360 ((cv_eq (a := alc v c0 r) (b := 0) (by omega) (by omega)).mpr h)
                refine lv_iload_n x.1 x.2.1 dd_md_hasWholeColumn_22 rfl (lv_at hl 0 rfl) ?_
                refine lv_iconst (v := nI 5) x.1 x.2.1 dd_md_hasWholeColumn_23 (by decide +kernel) ?_
                refine lv_iload x.1 x.2.1 dd_md_hasWholeColumn_24 (lv_at hl 3 rfl) ?_
                refine lv_imul x.1 x.2.1 dd_md_hasWholeColumn_26 ?_
                refine mn_top (w := nI (5 * r)) (pk_mul _ _) ?_
                refine lv_iload_n x.1 x.2.1 dd_md_hasWholeColumn_27 rfl (lv_at hl 1 rfl) ?_
                refine lv_iadd x.1 x.2.1 dd_md_hasWholeColumn_28 ?_
                refine mn_top (w := nI (5 * r + c0)) (nI_add _ _) ?_
                refine lv_ishr x.1 x.2.1 dd_md_hasWholeColumn_29 ?_
                refine lv_iconst (v := nI 1) x.1 x.2.1 dd_md_hasWholeColumn_30 (by decide +kernel) ?_
                refine lv_iand x.1 x.2.1 dd_md_hasWholeColumn_31 ?_
                refine lv_iconst (v := nI 1) x.1 x.2.1 dd_md_hasWholeColumn_32 (by decide +kernel) ?_
                refine lv_icmp_ne (tgt := 40) x.1 x.2.1 dd_md_hasWholeColumn_33 (by decide) (fun c361 => ?_) (fun c361 => ?_)
                · refine lv_iconst (v := nI 0) x.1 x.2.1 dd_md_hasWholeColumn_40 (by decide +kernel) ?_
                  refine mn_top (w := nI (alc v c0 (r + 1))) (by rw [alc, if_neg (by omega), if_neg c361]) ?_
                  refine lv_istore_n (lv' := [(3, .int (nI (alc v c0 (r + 1)))), (1, .int v), (2, .int (nI c0)), (4, .int (nI r))]) x.1 x.2.1 dd_md_hasWholeColumn_41 rfl hl (by decide) rfl (fun ls hl => ?_)
                  refine lv_iinc (v := nI (r + 1)) (lv' := [(4, .int (nI (r + 1))), (3, .int (nI (alc v c0 (r + 1)))), (1, .int v), (2, .int (nI c0))]) x.1 x.2.1 dd_md_hasWholeColumn_42 hl (k := 3) rfl (mn_inc _) (by decide) rfl (fun ls hl => ?_)
                  refine lv_goto (tgt := 12) x.1 x.2.1 dd_md_hasWholeColumn_45 (by decide) ?_
                  exact ihloop356 (r + 1) _ (by omega) hL (by omega) ls H _ (lv_sub hl [2, 3, 1, 0] rfl) hH hS
                · refine lv_iconst (v := nI 1) x.1 x.2.1 dd_md_hasWholeColumn_36 (by decide +kernel) ?_
                  refine lv_goto (tgt := 41) x.1 x.2.1 dd_md_hasWholeColumn_37 (by decide) ?_
                  refine mn_top (w := nI (alc v c0 (r + 1))) (by rw [alc, if_neg (by omega), if_pos c361]) ?_
                  refine lv_istore_n (lv' := [(3, .int (nI (alc v c0 (r + 1)))), (1, .int v), (2, .int (nI c0)), (4, .int (nI r))]) x.1 x.2.1 dd_md_hasWholeColumn_41 rfl hl (by decide) rfl (fun ls hl => ?_)
                  refine lv_iinc (v := nI (r + 1)) (lv' := [(4, .int (nI (r + 1))), (3, .int (nI (alc v c0 (r + 1)))), (1, .int v), (2, .int (nI c0))]) x.1 x.2.1 dd_md_hasWholeColumn_42 hl (k := 3) rfl (mn_inc _) (by decide) rfl (fun ls hl => ?_)
                  refine lv_goto (tgt := 12) x.1 x.2.1 dd_md_hasWholeColumn_45 (by decide) ?_
                  exact ihloop356 (r + 1) _ (by omega) hL (by omega) ls H _ (lv_sub hl [2, 3, 1, 0] rfl) hH hS
        exact loop356 _ 0 _ (by decide) hL (Nat.lt_succ_self _) ls H _ (lv_sub hl [2, 3, 1, 0] rfl) hH hS
  exact loop353 _ 0 _ (by decide) (fun q hq => absurd hq (Nat.not_lt_zero _)) hL (Nat.lt_succ_self _) ls H _ (lv_sub hl [2, 0] rfl) hH hS
def mr1 (M : fV) (a nx : Nat) : fV := mu (mu (mu (mu (mu M 8 a (nI nx)) 14 a (nI nx)) 15 a (nI 1)) 16 a (nI 0)) 17 a (nI 0)
def mrd (M : fV) (n a dc a0 b0 nx : Nat) : fV := if nx = 0 then mse M a else mal (mr1 M a nx) n a dc a0 b0 (nI 1) (M 11 a) (nI nx) (nI 0) (-1) (-1) 25
set_option maxRecDepth 100000 in
set_option maxHeartbeats 4000000 in
theorem kk_M_round {l : Launch} {D : va_G} {ar : Nat → ClassId} {base : Nat} {σ : mp_M} {ad : Nat → Nat → Nat} {rg : Nat → Bool} {pl : Nat → Nat} {V M : fV} {a0 b0 a n dc g pr rf nx : Nat} (hL : Lay ar ad rg pl V M σ) (hA : 20 * a0 + b0 = a) (ha : a0 < 25) (hb : b0 < 20) (hn : M 22 0 = nI n) (hn2 : n ≤ 100) (hdc : M 3 a = nI dc) (hdl : dc ≤ 12) (h1 : M 8 a = nI g) (h2 : M 4 a = nI pr) (h3 : M 20 a = nI rf) (hg : g < 2 ^ 30) (hp : pr < 2 ^ 30) (hr9 : rf < 2 ^ 30) (hnx : nxt (mx g (mx pr rf)) a0 = nx) : CN l D ar base yy_md_round prog_9_method_13_code 7 (Option.some Jvm.ClassFile.FieldType.int) [] 2 37 0 0 [.ref (ad 13 0), .int (nI a0), .int (nI b0)] σ (fun o σ' _ => o = .returned (some (.int (if nx = 0 then nI 0 else nI 25))) ∧ Lay ar ad rg pl V (mrd M n a dc a0 b0 nx) σ') := by
  refine mp_in (Nat.le_of_ble_eq_true rfl) ?_
  intro p e R s m below meth c x hfr hlo hce hsl hr hlk hin hex hG hB ls H hH0 hH hS hl
  have hl : lv_has ls 7 [(0, .ref (ad 13 0)), (1, .int (nI a0)), (2, .int (nI b0))] := hl
  have hab : mx g (mx pr rf) < 2 ^ 30 := mx_lt hg (mx_lt hp hr9)
  have hmg : mx g pr < 2 ^ 30 := mx_lt hg hp
  obtain ⟨ab, hae⟩ : ∃ ab, ab = mx g (mx pr rf) := ⟨_, rfl⟩
  rw [← hae] at hab hnx
  have join362 : ∀ (σ : mp_M), Lay ar ad rg pl V M σ → ∀ (ls : Array Slot) (H : Heap) (locs : List Loc), lv_has ls 7 [(0, .ref (ad 13 0)), (1, .int (nI a0)), (2, .int (nI b0)), (3, .int (nI a)), (4, .int (nI ab))] → HH D base σ H → va_S (mp_A base) s.heap H locs → W p l e R s m [.ref (ad 13 0), .int (nI a0), .int (nI b0)].toArray below meth c H locs 0 0 (mp_Q below s 0 0 base (mp_P D cl_L base s (fun o σ' _ => o = .returned (some (.int (if nx = 0 then nI 0 else nI 25))) ∧ Lay ar ad rg pl V (mrd M n a dc a0 b0 nx) σ'))) (F0 m 52 ls []) := by
    intro σ hL ls H locs hl hH hS
    refine lv_bipush (v := nI 25) x.1 x.2.1 dd_md_round_52 (by decide +kernel) ?_
    refine lv_iload_n x.1 x.2.1 dd_md_round_54 rfl (lv_at hl 1 rfl) ?_
    refine lv_iadd x.1 x.2.1 dd_md_round_55 ?_
    refine mn_top (w := nI (25 + a0)) (nI_add _ _) ?_
    refine lv_istore (lv' := [(5, .int (nI (25 + a0))), (0, .ref (ad 13 0)), (1, .int (nI a0)), (2, .int (nI b0)), (3, .int (nI a)), (4, .int (nI ab))]) x.1 x.2.1 dd_md_round_56 hl (by decide) rfl (fun ls hl => ?_)
    have loop363 : ∀ (n364 : Nat) (r : Nat) (σ : mp_M), 1 ≤ r → (r = 1 ∨ 25 * (r - 1) + a0 ≤ ab) → Lay ar ad rg pl V M σ → ab + 100 - 25 * r < n364 → ∀ (ls : Array Slot) (H : Heap) (locs : List Loc), lv_has ls 7 [(0, .ref (ad 13 0)), (1, .int (nI a0)), (2, .int (nI b0)), (3, .int (nI a)), (4, .int (nI ab)), (5, .int (nI (25 * r + a0)))] → HH D base σ H → va_S (mp_A base) s.heap H locs → W p l e R s m [.ref (ad 13 0), .int (nI a0), .int (nI b0)].toArray below meth c H locs 0 0 (mp_Q below s 0 0 base (mp_P D cl_L base s (fun o σ' _ => o = .returned (some (.int (if nx = 0 then nI 0 else nI 25))) ∧ Lay ar ad rg pl V (mrd M n a dc a0 b0 nx) σ'))) (F0 m 58 ls []) := by
      intro n364
      induction n364 with
      | zero => intro r σ hr1 hr2 hL hmz; exact absurd hmz (Nat.not_lt_zero _)
      | succ n364 ihloop363 =>
        intro r σ hr1 hr2 hL hmz ls H locs hl hH hS
        have hrb : 25 * r ≤ ab + 25 := by omega
        refine lv_iload x.1 x.2.1 dd_md_round_58 (lv_at hl 5 rfl) ?_
        refine lv_iload x.1 x.2.1 dd_md_round_60 (lv_at hl 4 rfl) ?_
        refine lv_icmp_gt (tgt := 71) x.1 x.2.1 dd_md_round_62 (by decide) (fun c365 => ?_) (fun c365 => ?_)
        · have c365 : ab < 25 * r + a0 := (cv_lt (a := ab) (b := 25 * r + a0) (by omega) (by omega)).mp c365
          have hrr : nrd ab a0 = r := nrd_eq hr1 hr2 (by omega)
          refine lv_iload x.1 x.2.1 dd_md_round_71 (lv_at hl 5 rfl) ?_
          refine lv_bipush (v := nI 25) x.1 x.2.1 dd_md_round_73 (by decide +kernel) ?_
          refine lv_idiv x.1 x.2.1 dd_md_round_75 (by decide +kernel) ?_
          refine mn_top (w := nI ((25 * r + a0) / 25)) (pk_div (by omega) (by decide) (by decide)) ?_
          refine lv_sipush (v := nI 1000) x.1 x.2.1 dd_md_round_76 (by decide +kernel) ?_
          refine lv_icmp_le (tgt := 89) x.1 x.2.1 dd_md_round_79 (by decide) (fun c366 => ?_) (fun c366 => ?_)
          · have c366 : (25 * r + a0) / 25 ≤ 1000 := (cv_le (a := (25 * r + a0) / 25) (b := 1000) (by omega) (by omega)).mp c366
            have hnum : 25 * r + a0 = nx := by rw [← hnx, nxt, hrr, if_pos (by omega)]; omega
            have hnz : ¬ nx = 0 := by omega
            rw [hnum] at hl
            refine lv_aload_n x.1 x.2.1 dd_md_round_89 rfl (lv_at hl 0 rfl) ?_
            refine mp_get x hH (la13 hL) fg_md_35 rfl dd_md_round_90 ?_
            refine lv_iload_n x.1 x.2.1 dd_md_round_93 rfl (lv_at hl 3 rfl) ?_
            refine lv_iload x.1 x.2.1 dd_md_round_94 (lv_at hl 5 rfl) ?_
            refine ka_st x hH hS hL 8 (j := a) (by decide) (by decide) (show a < 500 from (by omega)) (by decide) dd_md_round_96 (fun σ hL H locs hH hS => ?_)
            refine lv_aload_n x.1 x.2.1 dd_md_round_97 rfl (lv_at hl 0 rfl) ?_
            refine mp_get x hH (la13 hL) fg_md_53 rfl dd_md_round_98 ?_
            refine lv_iload_n x.1 x.2.1 dd_md_round_101 rfl (lv_at hl 3 rfl) ?_
            refine lv_iload x.1 x.2.1 dd_md_round_102 (lv_at hl 5 rfl) ?_
            refine ka_st x hH hS hL 14 (j := a) (by decide) (by decide) (show a < 500 from (by omega)) (by decide) dd_md_round_104 (fun σ hL H locs hH hS => ?_)
            refine lv_aload_n x.1 x.2.1 dd_md_round_105 rfl (lv_at hl 0 rfl) ?_
            refine mp_get x hH (la13 hL) fg_md_56 rfl dd_md_round_106 ?_
            refine lv_iload_n x.1 x.2.1 dd_md_round_109 rfl (lv_at hl 3 rfl) ?_
            refine lv_iconst (v := nI 1) x.1 x.2.1 dd_md_round_110 (by decide +kernel) ?_
            refine ka_st x hH hS hL 15 (j := a) (by decide) (by decide) (show a < 500 from (by omega)) (by decide) dd_md_round_111 (fun σ hL H locs hH hS => ?_)
            refine lv_aload_n x.1 x.2.1 dd_md_round_112 rfl (lv_at hl 0 rfl) ?_
            refine mp_get x hH (la13 hL) fg_md_59 rfl dd_md_round_113 ?_
            refine lv_iload_n x.1 x.2.1 dd_md_round_116 rfl (lv_at hl 3 rfl) ?_
            refine lv_iconst (v := nI 0) x.1 x.2.1 dd_md_round_117 (by decide +kernel) ?_
            refine ka_st x hH hS hL 16 (j := a) (by decide) (by decide) (show a < 500 from (by omega)) (by decide) dd_md_round_118 (fun σ hL H locs hH hS => ?_)
            refine lv_aload_n x.1 x.2.1 dd_md_round_119 rfl (lv_at hl 0 rfl) ?_
            refine mp_get x hH (la13 hL) fg_md_62 rfl dd_md_round_120 ?_
            refine lv_iload_n x.1 x.2.1 dd_md_round_123 rfl (lv_at hl 3 rfl) ?_
            refine lv_iconst (v := nI 0) x.1 x.2.1 dd_md_round_124 (by decide +kernel) ?_
            refine ka_st x hH hS hL 17 (j := a) (by decide) (by decide) (show a < 500 from (by omega)) (by decide) dd_md_round_125 (fun σ hL H locs hH hS => ?_)
            refine lv_iconst (v := nI 0) x.1 x.2.1 dd_md_round_126 (by decide +kernel) ?_
            refine lv_istore (lv' := [(6, .int (nI 0)), (0, .ref (ad 13 0)), (1, .int (nI a0)), (2, .int (nI b0)), (3, .int (nI a)), (4, .int (nI ab)), (5, .int (nI nx))]) x.1 x.2.1 dd_md_round_127 hl (by decide) rfl (fun ls hl => ?_)
            have o1 : ∀ k i, k < 8 ∨ 17 < k ∨ k = 11 → mr1 M a nx k i = M k i := fun k i h => by unfold mr1; repeat rw [mu_k (by omega)]
            have loop367 : ∀ (n368 : Nat) (i : Nat) (σ : mp_M), i ≤ 25 → Lay ar ad rg pl V (mal (mr1 M a nx) n a dc a0 b0 (nI 1) (M 11 a) (nI nx) (nI 0) (-1) (-1) i) σ → 25 - i < n368 → ∀ (ls : Array Slot) (H : Heap) (locs : List Loc), lv_has ls 7 [(0, .ref (ad 13 0)), (1, .int (nI a0)), (2, .int (nI b0)), (3, .int (nI a)), (5, .int (nI nx)), (6, .int (nI i))] → HH D base σ H → va_S (mp_A base) s.heap H locs → W p l e R s m [.ref (ad 13 0), .int (nI a0), .int (nI b0)].toArray below meth c H locs 0 0 (mp_Q below s 0 0 base (mp_P D cl_L base s (fun o σ' _ => o = .returned (some (.int (if nx = 0 then nI 0 else nI 25))) ∧ Lay ar ad rg pl V (mrd M n a dc a0 b0 nx) σ'))) (F0 m 129 ls []) := by
              intro n368
              induction n368 with
              | zero => intro i σ hi hL hmz; exact absurd hmz (Nat.not_lt_zero _)
              | succ n368 ihloop367 =>
                intro i σ hi hL hmz ls H locs hl hH hS
                have hm1 := m1_100 (n + i)
                refine lv_iload x.1 x.2.1 dd_md_round_129 (lv_at hl 5 rfl) ?_
                refine lv_bipush (v := nI 25) x.1 x.2.1 dd_md_round_131 (by decide +kernel) ?_
                refine lv_icmp_ge (tgt := 162) x.1 x.2.1 dd_md_round_133 (by decide) (fun c369 => ?_) (fun c369 => ?_)
                · have c369 : 25 ≤ i := (cv_le (a := 25) (b := i) (by omega) (by omega)).mp c369
                  refine lv_bipush (v := nI 25) x.1 x.2.1 dd_md_round_162 (by decide +kernel) ?_
                  obtain rfl : i = 25 := by omega
                  exact mp_ri x hr hlk (by decide) (by decide) hH hS (fun _ => ⟨(congrArg (fun z => Outcome.returned (some (.int z))) ((if_neg hnz).symm)), by unfold mrd; rw [if_neg hnz]; exact hL⟩) dd_md_round_164
                · have c369 : ¬ (25 ≤ i) := fun h => c369 ((cv_le (a := 25) (b := i) (by omega) (by omega)).mpr h)
                  refine lv_aload_n x.1 x.2.1 dd_md_round_136 rfl (lv_at hl 0 rfl) ?_
                  refine lv_iconst (v := nI 1) x.1 x.2.1 dd_md_round_137 (by decide +kernel) ?_
                  refine lv_iload_n x.1 x.2.1 dd_md_round_138 rfl (lv_at hl 1 rfl) ?_
                  refine lv_iload x.1 x.2.1 dd_md_round_139 (lv_at hl 5 rfl) ?_
                  refine lv_iload_n x.1 x.2.1 dd_md_round_141 rfl (lv_at hl 2 rfl) ?_
                  refine lv_aload_n x.1 x.2.1 dd_md_round_142 rfl (lv_at hl 0 rfl) ?_
                  refine mp_get x hH (la13 hL) fg_md_44 rfl dd_md_round_143 ?_
                  refine lv_iload_n x.1 x.2.1 dd_md_round_146 rfl (lv_at hl 3 rfl) ?_
                  refine ka_ld x hH hL 11 (j := a) (by decide) (by decide) (show a < 500 from (by omega)) (by decide) dd_md_round_147 ?_
                  refine mn_top (w := M 11 a) ((mal_o (by decide) i).trans (o1 11 a (by decide))) ?_
                  refine lv_iload x.1 x.2.1 dd_md_round_148 (lv_at hl 4 rfl) ?_
                  refine lv_iconst (v := nI 0) x.1 x.2.1 dd_md_round_150 (by decide +kernel) ?_
                  refine lv_iconst (v := (-1)) x.1 x.2.1 dd_md_round_151 (by decide +kernel) ?_
                  refine lv_iconst (v := (-1)) x.1 x.2.1 dd_md_round_152 (by decide +kernel) ?_
                  refine mp_call x (wt_mv base) hG hB hl.1 (mp_invV (av := [.int (nI 1), .int (nI a0), .int (nI i), .int (nI b0), .int (M 11 a), .int (nI nx), .int (nI 0), .int (-1), .int (-1)]) x hH (la13 hL) rfl rfl mn_md_send mc_md_send (Or.inl ww_837) ww_839 ww_44 rfl dd_md_round_153) (kk_M_send (a := a) (n := m1 (n + i)) (dc := dc) hL hA (by omega) (by omega) (mal_22 ((o1 22 0 (by decide)).trans hn) hn2 i) (by omega) ((mal_o (by decide) i).trans ((o1 3 a (by decide)).trans hdc)) (by omega)) (Nat.le_trans (Nat.le_of_ble_eq_true rfl) hfr) (Nat.le_trans (Nat.le_of_ble_eq_true rfl) hlo) (Nat.le_trans (Nat.le_of_ble_eq_true rfl) hce) (Nat.le_trans (Nat.le_of_ble_eq_true rfl) hsl) hH hS (fun v σa t0 H locs hp370 ht0 hvm hzz hH hS => ?_) (fun _ _ _ _ _ hz _ _ _ _ _ => by cases hz.1)
                  obtain ⟨ho, hL⟩ := hp370
                  cases ho
                  refine W.eq (g2 := F0 m 156 ls []) rfl ?_
                  refine lv_iinc (v := nI (i + 1)) (lv' := [(6, .int (nI (i + 1))), (0, .ref (ad 13 0)), (1, .int (nI a0)), (2, .int (nI b0)), (3, .int (nI a)), (5, .int (nI nx))]) x.1 x.2.1 dd_md_round_156 hl (k := 5) rfl (mn_inc _) (by decide) rfl (fun ls hl => ?_)
                  refine lv_goto (tgt := 129) x.1 x.2.1 dd_md_round_159 (by decide) ?_
                  exact ihloop367 (i + 1) _ (by omega) hL (by omega) ls H _ (lv_sub hl [1, 2, 3, 4, 5, 0] rfl) hH hS
            exact loop367 _ 0 _ (by decide) hL (Nat.lt_succ_self _) ls H _ (lv_sub hl [1, 2, 3, 4, 6, 0] rfl) hH hS
          · have c366 : ¬ ((25 * r + a0) / 25 ≤ 1000) := fun h => c366 ((cv_le (a := (25 * r + a0) / 25) (b := 1000) (by omega) (by omega)).mpr h)
            have hnz : nx = 0 := by rw [← hnx, nxt, hrr, if_neg (by omega)]
            refine lv_aload_n x.1 x.2.1 dd_md_round_82 rfl (lv_at hl 0 rfl) ?_
            refine lv_iload_n x.1 x.2.1 dd_md_round_83 rfl (lv_at hl 3 rfl) ?_
            refine mp_call x (wt_mv base) hG hB hl.1 (mp_invV (av := [.int (nI a)]) x hH (la13 hL) rfl rfl mn_md_endAsking mc_md_endAsking (Or.inl ww_829) ww_831 ww_42 rfl dd_md_round_84) (kk_M_end (a := a) hL (by omega)) (Nat.le_trans (Nat.le_of_ble_eq_true rfl) hfr) (Nat.le_trans (Nat.le_of_ble_eq_true rfl) hlo) (Nat.le_trans (Nat.le_of_ble_eq_true rfl) hce) (Nat.le_trans (Nat.le_of_ble_eq_true rfl) hsl) hH hS (fun v σa t0 H locs hp371 ht0 hvm hzz hH hS => ?_) (fun _ _ _ _ _ hz _ _ _ _ _ => by cases hz.1)
            obtain ⟨ho, hL⟩ := hp371
            cases ho
            refine W.eq (g2 := F0 m 87 ls []) rfl ?_
            refine lv_iconst (v := nI 0) x.1 x.2.1 dd_md_round_87 (by decide +kernel) ?_
            exact mp_ri x hr hlk (by decide) (by decide) hH hS (fun _ => ⟨(congrArg (fun z => Outcome.returned (some (.int z))) ((if_pos hnz).symm)), by unfold mrd; rw [if_pos hnz]; exact hL⟩) dd_md_round_88
        · have c365 : ¬ (ab < 25 * r + a0) := fun h => c365 ((cv_lt (a := ab) (b := 25 * r + a0) (by omega) (by omega)).mpr h)
          refine lv_iinc (v := nI (25 * (r + 1) + a0)) (lv' := [(5, .int (nI (25 * (r + 1) + a0))), (0, .ref (ad 13 0)), (1, .int (nI a0)), (2, .int (nI b0)), (3, .int (nI a)), (4, .int (nI ab))]) x.1 x.2.1 dd_md_round_65 hl (k := 5) rfl ((nI_add (25 * r + a0) 25).trans (congrArg nI (by omega))) (by decide) rfl (fun ls hl => ?_)
          refine lv_goto (tgt := 58) x.1 x.2.1 dd_md_round_68 (by decide) ?_
          exact ihloop363 (r + 1) _ (by omega) (Or.inr (by omega)) hL (by omega) ls H _ (lv_sub hl [1, 2, 3, 4, 5, 0] rfl) hH hS
    exact loop363 _ 1 _ (Nat.le_refl _) (Or.inl rfl) hL (Nat.lt_succ_self _) ls H _ (lv_sub hl [1, 2, 3, 4, 5, 0] rfl) hH hS
  refine lv_iload_n x.1 x.2.1 dd_md_round_0 rfl (lv_at hl 1 rfl) ?_
  refine lv_iload_n x.1 x.2.1 dd_md_round_1 rfl (lv_at hl 2 rfl) ?_
  refine mp_call x (wt_mv base) hG hB hl.1 (mp_invS (av := [.int (nI a0), .int (nI b0)]) x mn_md_at mc_md_at (Or.inl ww_826) ww_827 ww_60 rfl dd_md_round_2) (kk_M_at (a0 := a0) (b0 := b0)) (Nat.le_trans (Nat.le_of_ble_eq_true rfl) hfr) (Nat.le_trans (Nat.le_of_ble_eq_true rfl) hlo) (Nat.le_trans (Nat.le_of_ble_eq_true rfl) hce) (Nat.le_trans (Nat.le_of_ble_eq_true rfl) hsl) hH hS (fun v σa t0 H locs hp372 ht0 hvm hzz hH hS => ?_) (fun _ _ _ _ _ hz _ _ _ _ _ => by cases hz.1)
  obtain ⟨ho, hσ⟩ := hp372
  cases ho
  rw [hσ] at hH
  refine W.eq (g2 := F0 m 5 ls [.int (nI (20 * a0 + b0))]) rfl ?_
  refine mn_top (w := nI a) (congrArg nI hA) ?_
  refine lv_istore_n (lv' := [(3, .int (nI a)), (0, .ref (ad 13 0)), (1, .int (nI a0)), (2, .int (nI b0))]) x.1 x.2.1 dd_md_round_5 rfl hl (by decide) rfl (fun ls hl => ?_)
  refine lv_aload_n x.1 x.2.1 dd_md_round_6 rfl (lv_at hl 1 rfl) ?_
  refine mp_get x hH (la13 hL) fg_md_35 rfl dd_md_round_7 ?_
  refine lv_iload_n x.1 x.2.1 dd_md_round_10 rfl (lv_at hl 0 rfl) ?_
  refine ka_ld x hH hL 8 (j := a) (by decide) (by decide) (show a < 500 from (by omega)) (by decide) dd_md_round_11 ?_
  refine mn_top (w := nI g) (h1) ?_
  refine lv_istore (lv' := [(4, .int (nI g)), (3, .int (nI a)), (0, .ref (ad 13 0)), (1, .int (nI a0)), (2, .int (nI b0))]) x.1 x.2.1 dd_md_round_12 hl (by decide) rfl (fun ls hl => ?_)
  refine lv_aload_n x.1 x.2.1 dd_md_round_14 rfl (lv_at hl 2 rfl) ?_
  refine mp_get x hH (la13 hL) fg_md_23 rfl dd_md_round_15 ?_
  refine lv_iload_n x.1 x.2.1 dd_md_round_18 rfl (lv_at hl 1 rfl) ?_
  refine ka_ld x hH hL 4 (j := a) (by decide) (by decide) (show a < 500 from (by omega)) (by decide) dd_md_round_19 ?_
  refine mn_top (w := nI pr) (h2) ?_
  refine lv_iload x.1 x.2.1 dd_md_round_20 (lv_at hl 0 rfl) ?_
  refine lv_icmp_le (tgt := 33) x.1 x.2.1 dd_md_round_22 (by decide) (fun c373 => ?_) (fun c373 => ?_)
  · have c373 : pr ≤ g := (cv_le (a := pr) (b := g) (by omega) (by omega)).mp c373
    refine lv_aload_n x.1 x.2.1 dd_md_round_33 rfl (lv_at hl 2 rfl) ?_
    refine mp_get x hH (la13 hL) fg_md_71 rfl dd_md_round_34 ?_
    refine lv_iload_n x.1 x.2.1 dd_md_round_37 rfl (lv_at hl 1 rfl) ?_
    refine ka_ld x hH hL 20 (j := a) (by decide) (by decide) (show a < 500 from (by omega)) (by decide) dd_md_round_38 ?_
    refine mn_top (w := nI rf) (h3) ?_
    refine lv_iload x.1 x.2.1 dd_md_round_39 (lv_at hl 0 rfl) ?_
    refine lv_icmp_le (tgt := 52) x.1 x.2.1 dd_md_round_41 (by decide) (fun c374 => ?_) (fun c374 => ?_)
    · have c374 : rf ≤ g := (cv_le (a := rf) (b := g) (by omega) (by omega)).mp c374
      have hx : g = ab := by rw [hae, ← mx_assoc]; unfold mx; (repeat' split) <;> omega
      rw [hx] at hl
      exact join362  _  hL ls H _ (lv_sub hl [2, 3, 4, 1, 0] rfl) hH hS
    · have c374 : ¬ (rf ≤ g) := fun h => c374 ((cv_le (a := rf) (b := g) (by omega) (by omega)).mpr h)
      refine lv_aload_n x.1 x.2.1 dd_md_round_44 rfl (lv_at hl 2 rfl) ?_
      refine mp_get x hH (la13 hL) fg_md_71 rfl dd_md_round_45 ?_
      refine lv_iload_n x.1 x.2.1 dd_md_round_48 rfl (lv_at hl 1 rfl) ?_
      refine ka_ld x hH hL 20 (j := a) (by decide) (by decide) (show a < 500 from (by omega)) (by decide) dd_md_round_49 ?_
      refine mn_top (w := nI rf) (h3) ?_
      refine lv_istore (lv' := [(4, .int (nI rf)), (3, .int (nI a)), (0, .ref (ad 13 0)), (1, .int (nI a0)), (2, .int (nI b0))]) x.1 x.2.1 dd_md_round_50 hl (by decide) rfl (fun ls hl => ?_)
      have hx : rf = ab := by rw [hae, ← mx_assoc]; unfold mx; (repeat' split) <;> omega
      rw [hx] at hl
      exact join362  _  hL ls H _ (lv_sub hl [2, 3, 4, 1, 0] rfl) hH hS
  · have c373 : ¬ (pr ≤ g) := fun h => c373 ((cv_le (a := pr) (b := g) (by omega) (by omega)).mpr h)
    refine lv_aload_n x.1 x.2.1 dd_md_round_25 rfl (lv_at hl 2 rfl) ?_
    refine mp_get x hH (la13 hL) fg_md_23 rfl dd_md_round_26 ?_
    refine lv_iload_n x.1 x.2.1 dd_md_round_29 rfl (lv_at hl 1 rfl) ?_
    refine ka_ld x hH hL 4 (j := a) (by decide) (by decide) (show a < 500 from (by omega)) (by decide) dd_md_round_30 ?_
    refine mn_top (w := nI pr) (h2) ?_
    refine lv_istore (lv' := [(4, .int (nI pr)), (3, .int (nI a)), (0, .ref (ad 13 0)), (1, .int (nI a0)), (2, .int (nI b0))]) x.1 x.2.1 dd_md_round_31 hl (by decide) rfl (fun ls hl => ?_)
    refine lv_aload_n x.1 x.2.1 dd_md_round_33 rfl (lv_at hl 2 rfl) ?_
    refine mp_get x hH (la13 hL) fg_md_71 rfl dd_md_round_34 ?_
    refine lv_iload_n x.1 x.2.1 dd_md_round_37 rfl (lv_at hl 1 rfl) ?_
    refine ka_ld x hH hL 20 (j := a) (by decide) (by decide) (show a < 500 from (by omega)) (by decide) dd_md_round_38 ?_
    refine mn_top (w := nI rf) (h3) ?_
    refine lv_iload x.1 x.2.1 dd_md_round_39 (lv_at hl 0 rfl) ?_
    refine lv_icmp_le (tgt := 52) x.1 x.2.1 dd_md_round_41 (by decide) (fun c375 => ?_) (fun c375 => ?_)
    · have c375 : rf ≤ pr := (cv_le (a := rf) (b := pr) (by omega) (by omega)).mp c375
      have hx : pr = ab := by rw [hae, ← mx_assoc]; unfold mx; (repeat' split) <;> omega
      rw [hx] at hl
      exact join362  _  hL ls H _ (lv_sub hl [2, 3, 4, 1, 0] rfl) hH hS
    · have c375 : ¬ (rf ≤ pr) := fun h => c375 ((cv_le (a := rf) (b := pr) (by omega) (by omega)).mpr h)
      refine lv_aload_n x.1 x.2.1 dd_md_round_44 rfl (lv_at hl 2 rfl) ?_
      refine mp_get x hH (la13 hL) fg_md_71 rfl dd_md_round_45 ?_
      refine lv_iload_n x.1 x.2.1 dd_md_round_48 rfl (lv_at hl 1 rfl) ?_
      refine ka_ld x hH hL 20 (j := a) (by decide) (by decide) (show a < 500 from (by omega)) (by decide) dd_md_round_49 ?_
      refine mn_top (w := nI rf) (h3) ?_
      refine lv_istore (lv' := [(4, .int (nI rf)), (3, .int (nI a)), (0, .ref (ad 13 0)), (1, .int (nI a0)), (2, .int (nI b0))]) x.1 x.2.1 dd_md_round_50 hl (by decide) rfl (fun ls hl => ?_)
      have hx : rf = ab := by rw [hae, ← mx_assoc]; unfold mx; (repeat' split) <;> omega
      rw [hx] at hl
      exact join362  _  hL ls H _ (lv_sub hl [2, 3, 4, 1, 0] rfl) hH hS
def mas0 (M : fV) (n a dc a0 b0 : Nat) (fr su nu : Int32) : fV :=
  if nu < M 4 a then msn M n a dc a0 b0 (nI 5) fr su nu (M 4 a) (-1) (-1)
  else msn (mu M 4 a nu) n a dc a0 b0 (nI 2) fr su nu (M 5 a) (if 0 < M 5 a then M 6 a else (-1)) (if 0 < M 5 a then M 7 a else (-1))
def mas1 (M : fV) (n a dc a0 b0 : Nat) (fr su nu : Int32) : fV :=
  if nu < M 4 a then msn M n a dc a0 b0 (nI 5) fr su nu (M 4 a) (-1) (-1)
  else msn (mu (mu (mu (mu M 4 a nu) 5 a nu) 6 a (M 23 7)) 7 a (M 23 8)) n a dc a0 b0 (nI 4) fr su nu (nI 0) (-1) (-1)
set_option maxRecDepth 100000 in
set_option maxHeartbeats 4000000 in
theorem kk_M_answers0 {l : Launch} {D : va_G} {ar : Nat → ClassId} {base : Nat} {σ : mp_M} {ad : Nat → Nat → Nat} {rg : Nat → Bool} {pl : Nat → Nat} {V M : fV} {a0 b0 a n dc : Nat} {fr su nu : Int32} (hL : Lay ar ad rg pl V M σ) (hA : 20 * a0 + b0 = a) (ha : a0 < 25) (hb : b0 < 20) (hn : M 22 0 = nI n) (hn2 : n ≤ 100) (hdc : M 3 a = nI dc) (hdl : dc ≤ 12)  : CN l D ar base yy_md_answers prog_9_method_19_code 9 (Option.none : Option Jvm.ClassFile.FieldType) [] 2 37 0 0 [.ref (ad 13 0), .int (nI a), .int (nI 0), .int (nI a0), .int fr, .int (nI b0), .int su, .int nu] σ (fun o σ' _ => o = .returned none ∧ Lay ar ad rg pl V (mas0 M n a dc a0 b0 fr su nu) σ') := by
  refine mp_in (Nat.le_of_ble_eq_true rfl) ?_
  intro p e R s m below meth c x hfr hlo hce hsl hr hlk hin hex hG hB ls H hH0 hH hS hl
  have hl : lv_has ls 9 [(0, .ref (ad 13 0)), (1, .int (nI a)), (2, .int (nI 0)), (3, .int (nI a0)), (4, .int fr), (5, .int (nI b0)), (6, .int su), (7, .int nu)] := hl
  refine lv_iload x.1 x.2.1 dd_md_answers_0 (lv_at hl 7 rfl) ?_
  refine lv_aload_n x.1 x.2.1 dd_md_answers_2 rfl (lv_at hl 0 rfl) ?_
  refine mp_get x hH (la13 hL) fg_md_23 rfl dd_md_answers_3 ?_
  refine lv_iload_n x.1 x.2.1 dd_md_answers_6 rfl (lv_at hl 1 rfl) ?_
  refine ka_ld x hH hL 4 (j := a) (by decide) (by decide) (show a < 500 from (by omega)) (by decide) dd_md_answers_7 ?_
  refine lv_icmp_ge (tgt := 34) x.1 x.2.1 dd_md_answers_8 (by decide) (fun c376 => ?_) (fun c376 => ?_)
  · refine lv_aload_n x.1 x.2.1 dd_md_answers_34 rfl (lv_at hl 0 rfl) ?_
    refine mp_get x hH (la13 hL) fg_md_23 rfl dd_md_answers_35 ?_
    refine lv_iload_n x.1 x.2.1 dd_md_answers_38 rfl (lv_at hl 1 rfl) ?_
    refine lv_iload x.1 x.2.1 dd_md_answers_39 (lv_at hl 7 rfl) ?_
    refine ka_st x hH hS hL 4 (j := a) (by decide) (by decide) (show a < 500 from (by omega)) (by decide) dd_md_answers_41 (fun σ hL H locs hH hS => ?_)
    refine lv_iload_n x.1 x.2.1 dd_md_answers_42 rfl (lv_at hl 2 rfl) ?_
    refine lv_if_ne (tgt := 113) x.1 x.2.1 dd_md_answers_43 (by decide) (fun c377 => absurd (by decide +kernel) c377) (fun c377 => ?_)
    refine lv_aload_n x.1 x.2.1 dd_md_answers_46 rfl (lv_at hl 0 rfl) ?_
    refine mp_get x hH (la13 hL) fg_md_26 rfl dd_md_answers_47 ?_
    refine lv_iload_n x.1 x.2.1 dd_md_answers_50 rfl (lv_at hl 1 rfl) ?_
    refine ka_ld x hH hL 5 (j := a) (by decide) (by decide) (show a < 500 from (by omega)) (by decide) dd_md_answers_51 ?_
    refine mn_top (w := M 5 a) (mu_k (by decide)) ?_
    refine lv_if_le (tgt := 59) x.1 x.2.1 dd_md_answers_52 (by decide) (fun c378 => ?_) (fun c378 => ?_)
    · refine lv_iconst (v := nI 0) x.1 x.2.1 dd_md_answers_59 (by decide +kernel) ?_
      refine lv_istore (lv' := [(8, .int (nI 0)), (0, .ref (ad 13 0)), (1, .int (nI a)), (2, .int (nI 0)), (3, .int (nI a0)), (4, .int fr), (5, .int (nI b0)), (6, .int su), (7, .int nu)]) x.1 x.2.1 dd_md_answers_60 hl (by decide) rfl (fun ls hl => ?_)
      refine lv_aload_n x.1 x.2.1 dd_md_answers_62 rfl (lv_at hl 1 rfl) ?_
      refine lv_iconst (v := nI 2) x.1 x.2.1 dd_md_answers_63 (by decide +kernel) ?_
      refine lv_iload_n x.1 x.2.1 dd_md_answers_64 rfl (lv_at hl 4 rfl) ?_
      refine lv_iload x.1 x.2.1 dd_md_answers_65 (lv_at hl 5 rfl) ?_
      refine lv_iload x.1 x.2.1 dd_md_answers_67 (lv_at hl 6 rfl) ?_
      refine lv_iload x.1 x.2.1 dd_md_answers_69 (lv_at hl 7 rfl) ?_
      refine lv_iload x.1 x.2.1 dd_md_answers_71 (lv_at hl 8 rfl) ?_
      refine lv_aload_n x.1 x.2.1 dd_md_answers_73 rfl (lv_at hl 1 rfl) ?_
      refine mp_get x hH (la13 hL) fg_md_26 rfl dd_md_answers_74 ?_
      refine lv_iload_n x.1 x.2.1 dd_md_answers_77 rfl (lv_at hl 2 rfl) ?_
      refine ka_ld x hH hL 5 (j := a) (by decide) (by decide) (show a < 500 from (by omega)) (by decide) dd_md_answers_78 ?_
      refine mn_top (w := M 5 a) (mu_k (by decide)) ?_
      refine lv_iload x.1 x.2.1 dd_md_answers_79 (lv_at hl 0 rfl) ?_
      refine lv_if_eq (tgt := 93) x.1 x.2.1 dd_md_answers_81 (by decide) (fun c379 => ?_) (fun c379 => absurd (by decide +kernel) c379)
      refine lv_iconst (v := (-1)) x.1 x.2.1 dd_md_answers_93 (by decide +kernel) ?_
      refine lv_iload x.1 x.2.1 dd_md_answers_94 (lv_at hl 0 rfl) ?_
      refine lv_if_eq (tgt := 108) x.1 x.2.1 dd_md_answers_96 (by decide) (fun c380 => ?_) (fun c380 => absurd (by decide +kernel) c380)
      refine lv_iconst (v := (-1)) x.1 x.2.1 dd_md_answers_108 (by decide +kernel) ?_
      refine mp_call x (wt_mv base) hG hB hl.1 (mp_invV (av := [.int (nI 2), .int (nI a0), .int fr, .int (nI b0), .int su, .int nu, .int (M 5 a), .int (-1), .int (-1)]) x hH (la13 hL) rfl rfl mn_md_send mc_md_send (Or.inl ww_837) ww_839 ww_44 rfl dd_md_answers_109) (kk_M_send (a := a) (n := n) (dc := dc) hL hA (by omega) (by omega) ((mu_k (by decide)).trans (hn)) (by omega) ((mu_k (by decide)).trans (hdc)) (by omega)) (Nat.le_trans (Nat.le_of_ble_eq_true rfl) hfr) (Nat.le_trans (Nat.le_of_ble_eq_true rfl) hlo) (Nat.le_trans (Nat.le_of_ble_eq_true rfl) hce) (Nat.le_trans (Nat.le_of_ble_eq_true rfl) hsl) hH hS (fun v σa t0 H locs hp381 ht0 hvm hzz hH hS => ?_) (fun _ _ _ _ _ hz _ _ _ _ _ => by cases hz.1)
      obtain ⟨ho, hL⟩ := hp381
      cases ho
      refine W.eq (g2 := F0 m 112 ls []) rfl ?_
      exact mp_rv x hr hlk (by decide) (by decide) hH hS (fun _ => ⟨rfl, by unfold mas0; rw [if_neg (Int32.not_lt.mpr c376), if_neg (Int32.not_lt.mpr c378), if_neg (Int32.not_lt.mpr c378)]; exact hL⟩) dd_md_answers_112
    · refine lv_iconst (v := nI 1) x.1 x.2.1 dd_md_answers_55 (by decide +kernel) ?_
      refine lv_goto (tgt := 60) x.1 x.2.1 dd_md_answers_56 (by decide) ?_
      refine lv_istore (lv' := [(8, .int (nI 1)), (0, .ref (ad 13 0)), (1, .int (nI a)), (2, .int (nI 0)), (3, .int (nI a0)), (4, .int fr), (5, .int (nI b0)), (6, .int su), (7, .int nu)]) x.1 x.2.1 dd_md_answers_60 hl (by decide) rfl (fun ls hl => ?_)
      refine lv_aload_n x.1 x.2.1 dd_md_answers_62 rfl (lv_at hl 1 rfl) ?_
      refine lv_iconst (v := nI 2) x.1 x.2.1 dd_md_answers_63 (by decide +kernel) ?_
      refine lv_iload_n x.1 x.2.1 dd_md_answers_64 rfl (lv_at hl 4 rfl) ?_
      refine lv_iload x.1 x.2.1 dd_md_answers_65 (lv_at hl 5 rfl) ?_
      refine lv_iload x.1 x.2.1 dd_md_answers_67 (lv_at hl 6 rfl) ?_
      refine lv_iload x.1 x.2.1 dd_md_answers_69 (lv_at hl 7 rfl) ?_
      refine lv_iload x.1 x.2.1 dd_md_answers_71 (lv_at hl 8 rfl) ?_
      refine lv_aload_n x.1 x.2.1 dd_md_answers_73 rfl (lv_at hl 1 rfl) ?_
      refine mp_get x hH (la13 hL) fg_md_26 rfl dd_md_answers_74 ?_
      refine lv_iload_n x.1 x.2.1 dd_md_answers_77 rfl (lv_at hl 2 rfl) ?_
      refine ka_ld x hH hL 5 (j := a) (by decide) (by decide) (show a < 500 from (by omega)) (by decide) dd_md_answers_78 ?_
      refine mn_top (w := M 5 a) (mu_k (by decide)) ?_
      refine lv_iload x.1 x.2.1 dd_md_answers_79 (lv_at hl 0 rfl) ?_
      refine lv_if_eq (tgt := 93) x.1 x.2.1 dd_md_answers_81 (by decide) (fun c382 => absurd c382 (by decide +kernel)) (fun c382 => ?_)
      refine lv_aload_n x.1 x.2.1 dd_md_answers_84 rfl (lv_at hl 1 rfl) ?_
      refine mp_get x hH (la13 hL) fg_md_29 rfl dd_md_answers_85 ?_
      refine lv_iload_n x.1 x.2.1 dd_md_answers_88 rfl (lv_at hl 2 rfl) ?_
      refine ka_ld x hH hL 6 (j := a) (by decide) (by decide) (show a < 500 from (by omega)) (by decide) dd_md_answers_89 ?_
      refine mn_top (w := M 6 a) (mu_k (by decide)) ?_
      refine lv_goto (tgt := 94) x.1 x.2.1 dd_md_answers_90 (by decide) ?_
      refine lv_iload x.1 x.2.1 dd_md_answers_94 (lv_at hl 0 rfl) ?_
      refine lv_if_eq (tgt := 108) x.1 x.2.1 dd_md_answers_96 (by decide) (fun c383 => absurd c383 (by decide +kernel)) (fun c383 => ?_)
      refine lv_aload_n x.1 x.2.1 dd_md_answers_99 rfl (lv_at hl 1 rfl) ?_
      refine mp_get x hH (la13 hL) fg_md_32 rfl dd_md_answers_100 ?_
      refine lv_iload_n x.1 x.2.1 dd_md_answers_103 rfl (lv_at hl 2 rfl) ?_
      refine ka_ld x hH hL 7 (j := a) (by decide) (by decide) (show a < 500 from (by omega)) (by decide) dd_md_answers_104 ?_
      refine mn_top (w := M 7 a) (mu_k (by decide)) ?_
      refine lv_goto (tgt := 109) x.1 x.2.1 dd_md_answers_105 (by decide) ?_
      refine mp_call x (wt_mv base) hG hB hl.1 (mp_invV (av := [.int (nI 2), .int (nI a0), .int fr, .int (nI b0), .int su, .int nu, .int (M 5 a), .int (M 6 a), .int (M 7 a)]) x hH (la13 hL) rfl rfl mn_md_send mc_md_send (Or.inl ww_837) ww_839 ww_44 rfl dd_md_answers_109) (kk_M_send (a := a) (n := n) (dc := dc) hL hA (by omega) (by omega) ((mu_k (by decide)).trans (hn)) (by omega) ((mu_k (by decide)).trans (hdc)) (by omega)) (Nat.le_trans (Nat.le_of_ble_eq_true rfl) hfr) (Nat.le_trans (Nat.le_of_ble_eq_true rfl) hlo) (Nat.le_trans (Nat.le_of_ble_eq_true rfl) hce) (Nat.le_trans (Nat.le_of_ble_eq_true rfl) hsl) hH hS (fun v σa t0 H locs hp384 ht0 hvm hzz hH hS => ?_) (fun _ _ _ _ _ hz _ _ _ _ _ => by cases hz.1)
      obtain ⟨ho, hL⟩ := hp384
      cases ho
      refine W.eq (g2 := F0 m 112 ls []) rfl ?_
      exact mp_rv x hr hlk (by decide) (by decide) hH hS (fun _ => ⟨rfl, by unfold mas0; rw [if_neg (Int32.not_lt.mpr c376), if_pos (Int32.not_le.mp c378), if_pos (Int32.not_le.mp c378)]; exact hL⟩) dd_md_answers_112
  · refine lv_aload_n x.1 x.2.1 dd_md_answers_11 rfl (lv_at hl 0 rfl) ?_
    refine lv_iconst (v := nI 5) x.1 x.2.1 dd_md_answers_12 (by decide +kernel) ?_
    refine lv_iload_n x.1 x.2.1 dd_md_answers_13 rfl (lv_at hl 3 rfl) ?_
    refine lv_iload x.1 x.2.1 dd_md_answers_14 (lv_at hl 4 rfl) ?_
    refine lv_iload x.1 x.2.1 dd_md_answers_16 (lv_at hl 5 rfl) ?_
    refine lv_iload x.1 x.2.1 dd_md_answers_18 (lv_at hl 6 rfl) ?_
    refine lv_iload x.1 x.2.1 dd_md_answers_20 (lv_at hl 7 rfl) ?_
    refine lv_aload_n x.1 x.2.1 dd_md_answers_22 rfl (lv_at hl 0 rfl) ?_
    refine mp_get x hH (la13 hL) fg_md_23 rfl dd_md_answers_23 ?_
    refine lv_iload_n x.1 x.2.1 dd_md_answers_26 rfl (lv_at hl 1 rfl) ?_
    refine ka_ld x hH hL 4 (j := a) (by decide) (by decide) (show a < 500 from (by omega)) (by decide) dd_md_answers_27 ?_
    refine lv_iconst (v := (-1)) x.1 x.2.1 dd_md_answers_28 (by decide +kernel) ?_
    refine lv_iconst (v := (-1)) x.1 x.2.1 dd_md_answers_29 (by decide +kernel) ?_
    refine mp_call x (wt_mv base) hG hB hl.1 (mp_invV (av := [.int (nI 5), .int (nI a0), .int fr, .int (nI b0), .int su, .int nu, .int (M 4 a), .int (-1), .int (-1)]) x hH (la13 hL) rfl rfl mn_md_send mc_md_send (Or.inl ww_837) ww_839 ww_44 rfl dd_md_answers_30) (kk_M_send (a := a) (n := n) (dc := dc) hL hA (by omega) (by omega) (hn) (by omega) (hdc) (by omega)) (Nat.le_trans (Nat.le_of_ble_eq_true rfl) hfr) (Nat.le_trans (Nat.le_of_ble_eq_true rfl) hlo) (Nat.le_trans (Nat.le_of_ble_eq_true rfl) hce) (Nat.le_trans (Nat.le_of_ble_eq_true rfl) hsl) hH hS (fun v σa t0 H locs hp385 ht0 hvm hzz hH hS => ?_) (fun _ _ _ _ _ hz _ _ _ _ _ => by cases hz.1)
    obtain ⟨ho, hL⟩ := hp385
    cases ho
    refine W.eq (g2 := F0 m 33 ls []) rfl ?_
    exact mp_rv x hr hlk (by decide) (by decide) hH hS (fun _ => ⟨rfl, by unfold mas0; rw [if_pos (Int32.not_le.mp c376)]; exact hL⟩) dd_md_answers_33
set_option maxRecDepth 100000 in
set_option maxHeartbeats 4000000 in
theorem kk_M_answers1 {l : Launch} {D : va_G} {ar : Nat → ClassId} {base : Nat} {σ : mp_M} {ad : Nat → Nat → Nat} {rg : Nat → Bool} {pl : Nat → Nat} {V M : fV} {a0 b0 a n dc : Nat} {fr su nu : Int32} (hL : Lay ar ad rg pl V M σ) (hA : 20 * a0 + b0 = a) (ha : a0 < 25) (hb : b0 < 20) (hn : M 22 0 = nI n) (hn2 : n ≤ 100) (hdc : M 3 a = nI dc) (hdl : dc ≤ 12)  : CN l D ar base yy_md_answers prog_9_method_19_code 9 (Option.none : Option Jvm.ClassFile.FieldType) [] 2 37 0 0 [.ref (ad 13 0), .int (nI a), .int (nI 1), .int (nI a0), .int fr, .int (nI b0), .int su, .int nu] σ (fun o σ' _ => o = .returned none ∧ Lay ar ad rg pl V (mas1 M n a dc a0 b0 fr su nu) σ') := by
  refine mp_in (Nat.le_of_ble_eq_true rfl) ?_
  intro p e R s m below meth c x hfr hlo hce hsl hr hlk hin hex hG hB ls H hH0 hH hS hl
  have hl : lv_has ls 9 [(0, .ref (ad 13 0)), (1, .int (nI a)), (2, .int (nI 1)), (3, .int (nI a0)), (4, .int fr), (5, .int (nI b0)), (6, .int su), (7, .int nu)] := hl
  refine lv_iload x.1 x.2.1 dd_md_answers_0 (lv_at hl 7 rfl) ?_
  refine lv_aload_n x.1 x.2.1 dd_md_answers_2 rfl (lv_at hl 0 rfl) ?_
  refine mp_get x hH (la13 hL) fg_md_23 rfl dd_md_answers_3 ?_
  refine lv_iload_n x.1 x.2.1 dd_md_answers_6 rfl (lv_at hl 1 rfl) ?_
  refine ka_ld x hH hL 4 (j := a) (by decide) (by decide) (show a < 500 from (by omega)) (by decide) dd_md_answers_7 ?_
  refine lv_icmp_ge (tgt := 34) x.1 x.2.1 dd_md_answers_8 (by decide) (fun c386 => ?_) (fun c386 => ?_)
  · refine lv_aload_n x.1 x.2.1 dd_md_answers_34 rfl (lv_at hl 0 rfl) ?_
    refine mp_get x hH (la13 hL) fg_md_23 rfl dd_md_answers_35 ?_
    refine lv_iload_n x.1 x.2.1 dd_md_answers_38 rfl (lv_at hl 1 rfl) ?_
    refine lv_iload x.1 x.2.1 dd_md_answers_39 (lv_at hl 7 rfl) ?_
    refine ka_st x hH hS hL 4 (j := a) (by decide) (by decide) (show a < 500 from (by omega)) (by decide) dd_md_answers_41 (fun σ hL H locs hH hS => ?_)
    refine lv_iload_n x.1 x.2.1 dd_md_answers_42 rfl (lv_at hl 2 rfl) ?_
    refine lv_if_ne (tgt := 113) x.1 x.2.1 dd_md_answers_43 (by decide) (fun c387 => ?_) (fun c387 => absurd c387 (by decide +kernel))
    refine lv_aload_n x.1 x.2.1 dd_md_answers_113 rfl (lv_at hl 0 rfl) ?_
    refine mp_get x hH (la13 hL) fg_md_26 rfl dd_md_answers_114 ?_
    refine lv_iload_n x.1 x.2.1 dd_md_answers_117 rfl (lv_at hl 1 rfl) ?_
    refine lv_iload x.1 x.2.1 dd_md_answers_118 (lv_at hl 7 rfl) ?_
    refine ka_st x hH hS hL 5 (j := a) (by decide) (by decide) (show a < 500 from (by omega)) (by decide) dd_md_answers_120 (fun σ hL H locs hH hS => ?_)
    refine lv_aload_n x.1 x.2.1 dd_md_answers_121 rfl (lv_at hl 0 rfl) ?_
    refine mp_get x hH (la13 hL) fg_md_29 rfl dd_md_answers_122 ?_
    refine lv_iload_n x.1 x.2.1 dd_md_answers_125 rfl (lv_at hl 1 rfl) ?_
    refine lv_aload_n x.1 x.2.1 dd_md_answers_126 rfl (lv_at hl 0 rfl) ?_
    refine mp_get x hH (la13 hL) fg_md_77 rfl dd_md_answers_127 ?_
    refine lv_bipush (v := nI 7) x.1 x.2.1 dd_md_answers_130 (by decide +kernel) ?_
    refine ka_ld x hH hL 23 (j := 7) (by decide) (by decide) (show 7 < 34 from (by omega)) (by decide) dd_md_answers_132 ?_
    refine mn_top (w := M 23 7) ((mu_k (by decide)).trans (mu_k (by decide))) ?_
    refine ka_st x hH hS hL 6 (j := a) (by decide) (by decide) (show a < 500 from (by omega)) (by decide) dd_md_answers_133 (fun σ hL H locs hH hS => ?_)
    refine lv_aload_n x.1 x.2.1 dd_md_answers_134 rfl (lv_at hl 0 rfl) ?_
    refine mp_get x hH (la13 hL) fg_md_32 rfl dd_md_answers_135 ?_
    refine lv_iload_n x.1 x.2.1 dd_md_answers_138 rfl (lv_at hl 1 rfl) ?_
    refine lv_aload_n x.1 x.2.1 dd_md_answers_139 rfl (lv_at hl 0 rfl) ?_
    refine mp_get x hH (la13 hL) fg_md_77 rfl dd_md_answers_140 ?_
    refine lv_bipush (v := nI 8) x.1 x.2.1 dd_md_answers_143 (by decide +kernel) ?_
    refine ka_ld x hH hL 23 (j := 8) (by decide) (by decide) (show 8 < 34 from (by omega)) (by decide) dd_md_answers_145 ?_
    refine mn_top (w := M 23 8) ((mu_k (by decide)).trans ((mu_k (by decide)).trans (mu_k (by decide)))) ?_
    refine ka_st x hH hS hL 7 (j := a) (by decide) (by decide) (show a < 500 from (by omega)) (by decide) dd_md_answers_146 (fun σ hL H locs hH hS => ?_)
    refine lv_aload_n x.1 x.2.1 dd_md_answers_147 rfl (lv_at hl 0 rfl) ?_
    refine lv_iconst (v := nI 4) x.1 x.2.1 dd_md_answers_148 (by decide +kernel) ?_
    refine lv_iload_n x.1 x.2.1 dd_md_answers_149 rfl (lv_at hl 3 rfl) ?_
    refine lv_iload x.1 x.2.1 dd_md_answers_150 (lv_at hl 4 rfl) ?_
    refine lv_iload x.1 x.2.1 dd_md_answers_152 (lv_at hl 5 rfl) ?_
    refine lv_iload x.1 x.2.1 dd_md_answers_154 (lv_at hl 6 rfl) ?_
    refine lv_iload x.1 x.2.1 dd_md_answers_156 (lv_at hl 7 rfl) ?_
    refine lv_iconst (v := nI 0) x.1 x.2.1 dd_md_answers_158 (by decide +kernel) ?_
    refine lv_iconst (v := (-1)) x.1 x.2.1 dd_md_answers_159 (by decide +kernel) ?_
    refine lv_iconst (v := (-1)) x.1 x.2.1 dd_md_answers_160 (by decide +kernel) ?_
    refine mp_call x (wt_mv base) hG hB hl.1 (mp_invV (av := [.int (nI 4), .int (nI a0), .int fr, .int (nI b0), .int su, .int nu, .int (nI 0), .int (-1), .int (-1)]) x hH (la13 hL) rfl rfl mn_md_send mc_md_send (Or.inl ww_837) ww_839 ww_44 rfl dd_md_answers_161) (kk_M_send (a := a) (n := n) (dc := dc) hL hA (by omega) (by omega) ((mu_k (by decide)).trans ((mu_k (by decide)).trans ((mu_k (by decide)).trans ((mu_k (by decide)).trans (hn))))) (by omega) ((mu_k (by decide)).trans ((mu_k (by decide)).trans ((mu_k (by decide)).trans ((mu_k (by decide)).trans (hdc))))) (by omega)) (Nat.le_trans (Nat.le_of_ble_eq_true rfl) hfr) (Nat.le_trans (Nat.le_of_ble_eq_true rfl) hlo) (Nat.le_trans (Nat.le_of_ble_eq_true rfl) hce) (Nat.le_trans (Nat.le_of_ble_eq_true rfl) hsl) hH hS (fun v σa t0 H locs hp388 ht0 hvm hzz hH hS => ?_) (fun _ _ _ _ _ hz _ _ _ _ _ => by cases hz.1)
    obtain ⟨ho, hL⟩ := hp388
    cases ho
    refine W.eq (g2 := F0 m 164 ls []) rfl ?_
    exact mp_rv x hr hlk (by decide) (by decide) hH hS (fun _ => ⟨rfl, by unfold mas1; rw [if_neg (Int32.not_lt.mpr c386)]; exact hL⟩) dd_md_answers_164
  · refine lv_aload_n x.1 x.2.1 dd_md_answers_11 rfl (lv_at hl 0 rfl) ?_
    refine lv_iconst (v := nI 5) x.1 x.2.1 dd_md_answers_12 (by decide +kernel) ?_
    refine lv_iload_n x.1 x.2.1 dd_md_answers_13 rfl (lv_at hl 3 rfl) ?_
    refine lv_iload x.1 x.2.1 dd_md_answers_14 (lv_at hl 4 rfl) ?_
    refine lv_iload x.1 x.2.1 dd_md_answers_16 (lv_at hl 5 rfl) ?_
    refine lv_iload x.1 x.2.1 dd_md_answers_18 (lv_at hl 6 rfl) ?_
    refine lv_iload x.1 x.2.1 dd_md_answers_20 (lv_at hl 7 rfl) ?_
    refine lv_aload_n x.1 x.2.1 dd_md_answers_22 rfl (lv_at hl 0 rfl) ?_
    refine mp_get x hH (la13 hL) fg_md_23 rfl dd_md_answers_23 ?_
    refine lv_iload_n x.1 x.2.1 dd_md_answers_26 rfl (lv_at hl 1 rfl) ?_
    refine ka_ld x hH hL 4 (j := a) (by decide) (by decide) (show a < 500 from (by omega)) (by decide) dd_md_answers_27 ?_
    refine lv_iconst (v := (-1)) x.1 x.2.1 dd_md_answers_28 (by decide +kernel) ?_
    refine lv_iconst (v := (-1)) x.1 x.2.1 dd_md_answers_29 (by decide +kernel) ?_
    refine mp_call x (wt_mv base) hG hB hl.1 (mp_invV (av := [.int (nI 5), .int (nI a0), .int fr, .int (nI b0), .int su, .int nu, .int (M 4 a), .int (-1), .int (-1)]) x hH (la13 hL) rfl rfl mn_md_send mc_md_send (Or.inl ww_837) ww_839 ww_44 rfl dd_md_answers_30) (kk_M_send (a := a) (n := n) (dc := dc) hL hA (by omega) (by omega) (hn) (by omega) (hdc) (by omega)) (Nat.le_trans (Nat.le_of_ble_eq_true rfl) hfr) (Nat.le_trans (Nat.le_of_ble_eq_true rfl) hlo) (Nat.le_trans (Nat.le_of_ble_eq_true rfl) hce) (Nat.le_trans (Nat.le_of_ble_eq_true rfl) hsl) hH hS (fun v σa t0 H locs hp389 ht0 hvm hzz hH hS => ?_) (fun _ _ _ _ _ hz _ _ _ _ _ => by cases hz.1)
    obtain ⟨ho, hL⟩ := hp389
    cases ho
    refine W.eq (g2 := F0 m 33 ls []) rfl ?_
    exact mp_rv x hr hlk (by decide) (by decide) hH hS (fun _ => ⟨rfl, by unfold mas1; rw [if_pos (Int32.not_le.mp c386)]; exact hL⟩) dd_md_answers_33
def mbt (M : fV) (a : Nat) : fV := if M 17 a < M 23 6 then mu (mu (mu M 17 a (M 23 6)) 18 a (M 23 7)) 19 a (M 23 8) else M
def mb2 (M : fV) (a : Nat) : fV := mu (mu (mbt M a) 15 a (nI 2)) 16 a (nI 0)
def mb3 (M : fV) (a : Nat) : fV := if 0 < mbt M a 17 a then mu (mu (mb2 M a) 12 a (mbt M a 18 a)) 13 a (mbt M a 19 a) else mb2 M a
theorem mbt_o {M : fV} {a k i : Nat} (h : k < 17 ∨ 19 < k) : mbt M a k i = M k i := by
  unfold mbt
  split
  · repeat rw [mu_k (by omega)]
  · rfl
theorem mb3_o {M : fV} {a k i : Nat} (h : k < 12 ∨ 19 < k) : mb3 M a k i = M k i := by
  unfold mb3 mb2
  split
  · rw [mu_k (by omega), mu_k (by omega), mu_k (by omega), mu_k (by omega), mbt_o (by omega)]
  · rw [mu_k (by omega), mu_k (by omega), mbt_o (by omega)]
noncomputable def mpb (M : fV) (n a dc a0 b0 : Nat) (su nu : Int32) : fV := if hec (M 16 a) = 0 then mbt M a else mal (mb3 M a) n a dc a0 b0 (nI 3) su nu (nI 0) (mb3 M a 12 a) (mb3 M a 13 a) 25
set_option maxRecDepth 100000 in
set_option maxHeartbeats 4000000 in
theorem kk_M_promisedBy {l : Launch} {D : va_G} {ar : Nat → ClassId} {base : Nat} {σ : mp_M} {ad : Nat → Nat → Nat} {rg : Nat → Bool} {pl : Nat → Nat} {V M : fV} {a0 b0 a n dc : Nat} {su nu : Int32} (hL : Lay ar ad rg pl V M σ) (hA : 20 * a0 + b0 = a) (ha : a0 < 25) (hb : b0 < 20) (hn : M 22 0 = nI n) (hn2 : n ≤ 100) (hdc : M 3 a = nI dc) (hdl : dc ≤ 12)  : CN l D ar base yy_md_promisedBy prog_9_method_20_code 7 (Option.none : Option Jvm.ClassFile.FieldType) [] 2 37 0 0 [.ref (ad 13 0), .int (nI a), .int (nI a0), .int (nI b0), .int su, .int nu] σ (fun o σ' _ => o = .returned none ∧ Lay ar ad rg pl V (mpb M n a dc a0 b0 su nu) σ') := by
  refine mp_in (Nat.le_of_ble_eq_true rfl) ?_
  intro p e R s m below meth c x hfr hlo hce hsl hr hlk hin hex hG hB ls H hH0 hH hS hl
  have hl : lv_has ls 7 [(0, .ref (ad 13 0)), (1, .int (nI a)), (2, .int (nI a0)), (3, .int (nI b0)), (4, .int su), (5, .int nu)] := hl
  have join390 : ∀ (σ : mp_M), Lay ar ad rg pl V (mbt M a) σ → ∀ (ls : Array Slot) (H : Heap) (locs : List Loc), lv_has ls 7 [(0, .ref (ad 13 0)), (1, .int (nI a)), (2, .int (nI a0)), (3, .int (nI b0)), (4, .int su), (5, .int nu)] → HH D base σ H → va_S (mp_A base) s.heap H locs → W p l e R s m [.ref (ad 13 0), .int (nI a), .int (nI a0), .int (nI b0), .int su, .int nu].toArray below meth c H locs 0 0 (mp_Q below s 0 0 base (mp_P D cl_L base s (fun o σ' _ => o = .returned none ∧ Lay ar ad rg pl V (mpb M n a dc a0 b0 su nu) σ'))) (F0 m 55 ls []) := by
    intro σ hL ls H locs hl hH hS
    refine lv_aload_n x.1 x.2.1 dd_md_promisedBy_55 rfl (lv_at hl 0 rfl) ?_
    refine lv_aload_n x.1 x.2.1 dd_md_promisedBy_56 rfl (lv_at hl 0 rfl) ?_
    refine mp_get x hH (la13 hL) fg_md_59 rfl dd_md_promisedBy_57 ?_
    refine lv_iload_n x.1 x.2.1 dd_md_promisedBy_60 rfl (lv_at hl 1 rfl) ?_
    refine ka_ld x hH hL 16 (j := a) (by decide) (by decide) (show a < 500 from (by omega)) (by decide) dd_md_promisedBy_61 ?_
    refine mn_top (w := M 16 a) (mbt_o (by decide)) ?_
    refine mp_call x (wt_mv base) hG hB hl.1 (mp_invV (av := [.int (M 16 a)]) x hH (la13 hL) rfl rfl mn_md_hasEachColumn mc_md_hasEachColumn (Or.inl ww_873) ww_875 ww_51 rfl dd_md_promisedBy_62) (kk_M_hec hL) (Nat.le_trans (Nat.le_of_ble_eq_true rfl) hfr) (Nat.le_trans (Nat.le_of_ble_eq_true rfl) hlo) (Nat.le_trans (Nat.le_of_ble_eq_true rfl) hce) (Nat.le_trans (Nat.le_of_ble_eq_true rfl) hsl) hH hS (fun v σa t0 H locs hp391 ht0 hvm hzz hH hS => ?_) (fun _ _ _ _ _ hz _ _ _ _ _ => by cases hz.1)
    obtain ⟨ho, hL⟩ := hp391
    cases ho
    refine W.eq (g2 := F0 m 65 ls [.int (hec (M 16 a))]) rfl ?_
    refine lv_if_ne (tgt := 69) x.1 x.2.1 dd_md_promisedBy_65 (by decide) (fun c392 => ?_) (fun c392 => ?_)
    · have hz65 := c392
      have join393 : ∀ (σ : mp_M), Lay ar ad rg pl V (mb3 M a) σ → ∀ (ls : Array Slot) (H : Heap) (locs : List Loc), lv_has ls 7 [(0, .ref (ad 13 0)), (1, .int (nI a)), (2, .int (nI a0)), (3, .int (nI b0)), (4, .int su), (5, .int nu)] → HH D base σ H → va_S (mp_A base) s.heap H locs → W p l e R s m [.ref (ad 13 0), .int (nI a), .int (nI a0), .int (nI b0), .int su, .int nu].toArray below meth c H locs 0 0 (mp_Q below s 0 0 base (mp_P D cl_L base s (fun o σ' _ => o = .returned none ∧ Lay ar ad rg pl V (mpb M n a dc a0 b0 su nu) σ'))) (F0 m 116 ls []) := by
        intro σ hL ls H locs hl hH hS
        refine lv_iconst (v := nI 0) x.1 x.2.1 dd_md_promisedBy_116 (by decide +kernel) ?_
        refine lv_istore (lv' := [(6, .int (nI 0)), (0, .ref (ad 13 0)), (1, .int (nI a)), (2, .int (nI a0)), (3, .int (nI b0)), (4, .int su), (5, .int nu)]) x.1 x.2.1 dd_md_promisedBy_117 hl (by decide) rfl (fun ls hl => ?_)
        have loop394 : ∀ (n395 : Nat) (i : Nat) (σ : mp_M), i ≤ 25 → Lay ar ad rg pl V (mal (mb3 M a) n a dc a0 b0 (nI 3) su nu (nI 0) (mb3 M a 12 a) (mb3 M a 13 a) i) σ → 25 - i < n395 → ∀ (ls : Array Slot) (H : Heap) (locs : List Loc), lv_has ls 7 [(0, .ref (ad 13 0)), (1, .int (nI a)), (2, .int (nI a0)), (3, .int (nI b0)), (4, .int su), (5, .int nu), (6, .int (nI i))] → HH D base σ H → va_S (mp_A base) s.heap H locs → W p l e R s m [.ref (ad 13 0), .int (nI a), .int (nI a0), .int (nI b0), .int su, .int nu].toArray below meth c H locs 0 0 (mp_Q below s 0 0 base (mp_P D cl_L base s (fun o σ' _ => o = .returned none ∧ Lay ar ad rg pl V (mpb M n a dc a0 b0 su nu) σ'))) (F0 m 119 ls []) := by
          intro n395
          induction n395 with
          | zero => intro i σ hi hL hmz; exact absurd hmz (Nat.not_lt_zero _)
          | succ n395 ihloop394 =>
            intro i σ hi hL hmz ls H locs hl hH hS
            have hm1 := m1_100 (n + i)
            refine lv_iload x.1 x.2.1 dd_md_promisedBy_119 (lv_at hl 6 rfl) ?_
            refine lv_bipush (v := nI 25) x.1 x.2.1 dd_md_promisedBy_121 (by decide +kernel) ?_
            refine lv_icmp_ge (tgt := 158) x.1 x.2.1 dd_md_promisedBy_123 (by decide) (fun c396 => ?_) (fun c396 => ?_)
            · have c396 : 25 ≤ i := (cv_le (a := 25) (b := i) (by omega) (by omega)).mp c396
              obtain rfl : i = 25 := by omega
              exact mp_rv x hr hlk (by decide) (by decide) hH hS (fun _ => ⟨rfl, by unfold mpb; rw [if_neg hz65]; exact hL⟩) dd_md_promisedBy_158
            · have c396 : ¬ (25 ≤ i) := fun h => c396 ((cv_le (a := 25) (b := i) (by omega) (by omega)).mpr h)
              refine lv_aload_n x.1 x.2.1 dd_md_promisedBy_126 rfl (lv_at hl 0 rfl) ?_
              refine lv_iconst (v := nI 3) x.1 x.2.1 dd_md_promisedBy_127 (by decide +kernel) ?_
              refine lv_iload_n x.1 x.2.1 dd_md_promisedBy_128 rfl (lv_at hl 2 rfl) ?_
              refine lv_iload x.1 x.2.1 dd_md_promisedBy_129 (lv_at hl 6 rfl) ?_
              refine lv_iload_n x.1 x.2.1 dd_md_promisedBy_131 rfl (lv_at hl 3 rfl) ?_
              refine lv_iload x.1 x.2.1 dd_md_promisedBy_132 (lv_at hl 4 rfl) ?_
              refine lv_iload x.1 x.2.1 dd_md_promisedBy_134 (lv_at hl 5 rfl) ?_
              refine lv_iconst (v := nI 0) x.1 x.2.1 dd_md_promisedBy_136 (by decide +kernel) ?_
              refine lv_aload_n x.1 x.2.1 dd_md_promisedBy_137 rfl (lv_at hl 0 rfl) ?_
              refine mp_get x hH (la13 hL) fg_md_47 rfl dd_md_promisedBy_138 ?_
              refine lv_iload_n x.1 x.2.1 dd_md_promisedBy_141 rfl (lv_at hl 1 rfl) ?_
              refine ka_ld x hH hL 12 (j := a) (by decide) (by decide) (show a < 500 from (by omega)) (by decide) dd_md_promisedBy_142 ?_
              refine mn_top (w := mb3 M a 12 a) (mal_o (by decide) i) ?_
              refine lv_aload_n x.1 x.2.1 dd_md_promisedBy_143 rfl (lv_at hl 0 rfl) ?_
              refine mp_get x hH (la13 hL) fg_md_50 rfl dd_md_promisedBy_144 ?_
              refine lv_iload_n x.1 x.2.1 dd_md_promisedBy_147 rfl (lv_at hl 1 rfl) ?_
              refine ka_ld x hH hL 13 (j := a) (by decide) (by decide) (show a < 500 from (by omega)) (by decide) dd_md_promisedBy_148 ?_
              refine mn_top (w := mb3 M a 13 a) (mal_o (by decide) i) ?_
              refine mp_call x (wt_mv base) hG hB hl.1 (mp_invV (av := [.int (nI 3), .int (nI a0), .int (nI i), .int (nI b0), .int su, .int nu, .int (nI 0), .int (mb3 M a 12 a), .int (mb3 M a 13 a)]) x hH (la13 hL) rfl rfl mn_md_send mc_md_send (Or.inl ww_837) ww_839 ww_44 rfl dd_md_promisedBy_149) (kk_M_send (a := a) (n := m1 (n + i)) (dc := dc) hL hA (by omega) (by omega) (mal_22 ((mb3_o (by decide)).trans hn) hn2 i) (by omega) ((mal_o (by decide) i).trans ((mb3_o (by decide)).trans hdc)) (by omega)) (Nat.le_trans (Nat.le_of_ble_eq_true rfl) hfr) (Nat.le_trans (Nat.le_of_ble_eq_true rfl) hlo) (Nat.le_trans (Nat.le_of_ble_eq_true rfl) hce) (Nat.le_trans (Nat.le_of_ble_eq_true rfl) hsl) hH hS (fun v σa t0 H locs hp397 ht0 hvm hzz hH hS => ?_) (fun _ _ _ _ _ hz _ _ _ _ _ => by cases hz.1)
              obtain ⟨ho, hL⟩ := hp397
              cases ho
              refine W.eq (g2 := F0 m 152 ls []) rfl ?_
              refine lv_iinc (v := nI (i + 1)) (lv' := [(6, .int (nI (i + 1))), (0, .ref (ad 13 0)), (1, .int (nI a)), (2, .int (nI a0)), (3, .int (nI b0)), (4, .int su), (5, .int nu)]) x.1 x.2.1 dd_md_promisedBy_152 hl (k := 6) rfl (mn_inc _) (by decide) rfl (fun ls hl => ?_)
              refine lv_goto (tgt := 119) x.1 x.2.1 dd_md_promisedBy_155 (by decide) ?_
              exact ihloop394 (i + 1) _ (by omega) hL (by omega) ls H _ (lv_sub hl [1, 2, 3, 4, 5, 6, 0] rfl) hH hS
        exact loop394 _ 0 _ (by decide) hL (Nat.lt_succ_self _) ls H _ (lv_sub hl [1, 2, 3, 4, 5, 6, 0] rfl) hH hS
      refine lv_aload_n x.1 x.2.1 dd_md_promisedBy_69 rfl (lv_at hl 0 rfl) ?_
      refine mp_get x hH (la13 hL) fg_md_56 rfl dd_md_promisedBy_70 ?_
      refine lv_iload_n x.1 x.2.1 dd_md_promisedBy_73 rfl (lv_at hl 1 rfl) ?_
      refine lv_iconst (v := nI 2) x.1 x.2.1 dd_md_promisedBy_74 (by decide +kernel) ?_
      refine ka_st x hH hS hL 15 (j := a) (by decide) (by decide) (show a < 500 from (by omega)) (by decide) dd_md_promisedBy_75 (fun σ hL H locs hH hS => ?_)
      refine lv_aload_n x.1 x.2.1 dd_md_promisedBy_76 rfl (lv_at hl 0 rfl) ?_
      refine mp_get x hH (la13 hL) fg_md_59 rfl dd_md_promisedBy_77 ?_
      refine lv_iload_n x.1 x.2.1 dd_md_promisedBy_80 rfl (lv_at hl 1 rfl) ?_
      refine lv_iconst (v := nI 0) x.1 x.2.1 dd_md_promisedBy_81 (by decide +kernel) ?_
      refine ka_st x hH hS hL 16 (j := a) (by decide) (by decide) (show a < 500 from (by omega)) (by decide) dd_md_promisedBy_82 (fun σ hL H locs hH hS => ?_)
      refine lv_aload_n x.1 x.2.1 dd_md_promisedBy_83 rfl (lv_at hl 0 rfl) ?_
      refine mp_get x hH (la13 hL) fg_md_62 rfl dd_md_promisedBy_84 ?_
      refine lv_iload_n x.1 x.2.1 dd_md_promisedBy_87 rfl (lv_at hl 1 rfl) ?_
      refine ka_ld x hH hL 17 (j := a) (by decide) (by decide) (show a < 500 from (by omega)) (by decide) dd_md_promisedBy_88 ?_
      refine mn_top (w := (mbt M a) 17 a) ((mu_k (by decide)).trans (mu_k (by decide))) ?_
      refine lv_if_le (tgt := 116) x.1 x.2.1 dd_md_promisedBy_89 (by decide) (fun c398 => ?_) (fun c398 => ?_)
      · exact join393  _  (by unfold mb3; rw [if_neg (Int32.not_lt.mpr c398)]; exact hL) ls H _ (lv_sub hl [0, 1, 2, 3, 4, 5] rfl) hH hS
      · refine lv_aload_n x.1 x.2.1 dd_md_promisedBy_92 rfl (lv_at hl 0 rfl) ?_
        refine mp_get x hH (la13 hL) fg_md_47 rfl dd_md_promisedBy_93 ?_
        refine lv_iload_n x.1 x.2.1 dd_md_promisedBy_96 rfl (lv_at hl 1 rfl) ?_
        refine lv_aload_n x.1 x.2.1 dd_md_promisedBy_97 rfl (lv_at hl 0 rfl) ?_
        refine mp_get x hH (la13 hL) fg_md_65 rfl dd_md_promisedBy_98 ?_
        refine lv_iload_n x.1 x.2.1 dd_md_promisedBy_101 rfl (lv_at hl 1 rfl) ?_
        refine ka_ld x hH hL 18 (j := a) (by decide) (by decide) (show a < 500 from (by omega)) (by decide) dd_md_promisedBy_102 ?_
        refine mn_top (w := (mbt M a) 18 a) ((mu_k (by decide)).trans (mu_k (by decide))) ?_
        refine ka_st x hH hS hL 12 (j := a) (by decide) (by decide) (show a < 500 from (by omega)) (by decide) dd_md_promisedBy_103 (fun σ hL H locs hH hS => ?_)
        refine lv_aload_n x.1 x.2.1 dd_md_promisedBy_104 rfl (lv_at hl 0 rfl) ?_
        refine mp_get x hH (la13 hL) fg_md_50 rfl dd_md_promisedBy_105 ?_
        refine lv_iload_n x.1 x.2.1 dd_md_promisedBy_108 rfl (lv_at hl 1 rfl) ?_
        refine lv_aload_n x.1 x.2.1 dd_md_promisedBy_109 rfl (lv_at hl 0 rfl) ?_
        refine mp_get x hH (la13 hL) fg_md_68 rfl dd_md_promisedBy_110 ?_
        refine lv_iload_n x.1 x.2.1 dd_md_promisedBy_113 rfl (lv_at hl 1 rfl) ?_
        refine ka_ld x hH hL 19 (j := a) (by decide) (by decide) (show a < 500 from (by omega)) (by decide) dd_md_promisedBy_114 ?_
        refine mn_top (w := (mbt M a) 19 a) ((mu_k (by decide)).trans ((mu_k (by decide)).trans (mu_k (by decide)))) ?_
        refine ka_st x hH hS hL 13 (j := a) (by decide) (by decide) (show a < 500 from (by omega)) (by decide) dd_md_promisedBy_115 (fun σ hL H locs hH hS => ?_)
        exact join393  _  (by unfold mb3; rw [if_pos (Int32.not_le.mp c398)]; exact hL) ls H _ (lv_sub hl [0, 1, 2, 3, 4, 5] rfl) hH hS
    · have hz65 := c392
      exact mp_rv x hr hlk (by decide) (by decide) hH hS (fun _ => ⟨rfl, by unfold mpb; rw [if_pos hz65]; exact hL⟩) dd_md_promisedBy_68
  refine lv_aload_n x.1 x.2.1 dd_md_promisedBy_0 rfl (lv_at hl 0 rfl) ?_
  refine mp_get x hH (la13 hL) fg_md_77 rfl dd_md_promisedBy_1 ?_
  refine lv_bipush (v := nI 6) x.1 x.2.1 dd_md_promisedBy_4 (by decide +kernel) ?_
  refine ka_ld x hH hL 23 (j := 6) (by decide) (by decide) (show 6 < 34 from (by omega)) (by decide) dd_md_promisedBy_6 ?_
  refine lv_aload_n x.1 x.2.1 dd_md_promisedBy_7 rfl (lv_at hl 0 rfl) ?_
  refine mp_get x hH (la13 hL) fg_md_62 rfl dd_md_promisedBy_8 ?_
  refine lv_iload_n x.1 x.2.1 dd_md_promisedBy_11 rfl (lv_at hl 1 rfl) ?_
  refine ka_ld x hH hL 17 (j := a) (by decide) (by decide) (show a < 500 from (by omega)) (by decide) dd_md_promisedBy_12 ?_
  refine lv_icmp_le (tgt := 55) x.1 x.2.1 dd_md_promisedBy_13 (by decide) (fun c399 => ?_) (fun c399 => ?_)
  · exact join390  _  (by unfold mbt; rw [if_neg (Int32.not_lt.mpr c399)]; exact hL) ls H _ (lv_sub hl [0, 1, 2, 3, 4, 5] rfl) hH hS
  · refine lv_aload_n x.1 x.2.1 dd_md_promisedBy_16 rfl (lv_at hl 0 rfl) ?_
    refine mp_get x hH (la13 hL) fg_md_62 rfl dd_md_promisedBy_17 ?_
    refine lv_iload_n x.1 x.2.1 dd_md_promisedBy_20 rfl (lv_at hl 1 rfl) ?_
    refine lv_aload_n x.1 x.2.1 dd_md_promisedBy_21 rfl (lv_at hl 0 rfl) ?_
    refine mp_get x hH (la13 hL) fg_md_77 rfl dd_md_promisedBy_22 ?_
    refine lv_bipush (v := nI 6) x.1 x.2.1 dd_md_promisedBy_25 (by decide +kernel) ?_
    refine ka_ld x hH hL 23 (j := 6) (by decide) (by decide) (show 6 < 34 from (by omega)) (by decide) dd_md_promisedBy_27 ?_
    refine ka_st x hH hS hL 17 (j := a) (by decide) (by decide) (show a < 500 from (by omega)) (by decide) dd_md_promisedBy_28 (fun σ hL H locs hH hS => ?_)
    refine lv_aload_n x.1 x.2.1 dd_md_promisedBy_29 rfl (lv_at hl 0 rfl) ?_
    refine mp_get x hH (la13 hL) fg_md_65 rfl dd_md_promisedBy_30 ?_
    refine lv_iload_n x.1 x.2.1 dd_md_promisedBy_33 rfl (lv_at hl 1 rfl) ?_
    refine lv_aload_n x.1 x.2.1 dd_md_promisedBy_34 rfl (lv_at hl 0 rfl) ?_
    refine mp_get x hH (la13 hL) fg_md_77 rfl dd_md_promisedBy_35 ?_
    refine lv_bipush (v := nI 7) x.1 x.2.1 dd_md_promisedBy_38 (by decide +kernel) ?_
    refine ka_ld x hH hL 23 (j := 7) (by decide) (by decide) (show 7 < 34 from (by omega)) (by decide) dd_md_promisedBy_40 ?_
    refine mn_top (w := M 23 7) (mu_k (by decide)) ?_
    refine ka_st x hH hS hL 18 (j := a) (by decide) (by decide) (show a < 500 from (by omega)) (by decide) dd_md_promisedBy_41 (fun σ hL H locs hH hS => ?_)
    refine lv_aload_n x.1 x.2.1 dd_md_promisedBy_42 rfl (lv_at hl 0 rfl) ?_
    refine mp_get x hH (la13 hL) fg_md_68 rfl dd_md_promisedBy_43 ?_
    refine lv_iload_n x.1 x.2.1 dd_md_promisedBy_46 rfl (lv_at hl 1 rfl) ?_
    refine lv_aload_n x.1 x.2.1 dd_md_promisedBy_47 rfl (lv_at hl 0 rfl) ?_
    refine mp_get x hH (la13 hL) fg_md_77 rfl dd_md_promisedBy_48 ?_
    refine lv_bipush (v := nI 8) x.1 x.2.1 dd_md_promisedBy_51 (by decide +kernel) ?_
    refine ka_ld x hH hL 23 (j := 8) (by decide) (by decide) (show 8 < 34 from (by omega)) (by decide) dd_md_promisedBy_53 ?_
    refine mn_top (w := M 23 8) ((mu_k (by decide)).trans (mu_k (by decide))) ?_
    refine ka_st x hH hS hL 19 (j := a) (by decide) (by decide) (show a < 500 from (by omega)) (by decide) dd_md_promisedBy_54 (fun σ hL H locs hH hS => ?_)
    exact join390  _  (by unfold mbt; rw [if_pos (Int32.not_le.mp c399)]; exact hL) ls H _ (lv_sub hl [0, 1, 2, 3, 4, 5] rfl) hH hS
