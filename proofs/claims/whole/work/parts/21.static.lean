set_option maxRecDepth 100000 in
set_option maxHeartbeats 4000000 in
theorem kk_jm_max {l : Launch} {D : va_G} {ar : Nat → ClassId} {base : Nat} {σ : mp_M} {k j : Int32}  : CN l D ar base yy_jm_max prog_14_method_65_code 2 (Option.some Jvm.ClassFile.FieldType.int) [] 0 0 0 0 [.int k, .int j] σ (fun o σ' _ => o = .returned (some (.int (if k < j then j else k))) ∧ σ' = σ) := by
  refine mp_in (Nat.le_of_ble_eq_true rfl) ?_
  intro p e R s m below meth c x hfr hlo hce hsl hr hlk hin hex hG hB ls H hH0 hH hS hl
  have hl : lv_has ls 2 [(0, .int k), (1, .int j)] := hl
  refine lv_iload_n x.1 x.2.1 dd_jm_max_0 rfl (lv_at hl 0 rfl) ?_
  refine lv_iload_n x.1 x.2.1 dd_jm_max_1 rfl (lv_at hl 1 rfl) ?_
  refine lv_icmp_lt (tgt := 9) x.1 x.2.1 dd_jm_max_2 (by decide) (fun c1 => ?_) (fun c1 => ?_)
  · refine lv_iload_n x.1 x.2.1 dd_jm_max_9 rfl (lv_at hl 1 rfl) ?_
    exact mp_ri x hr hlk (by decide) (by decide) hH hS (fun _ => ⟨(congrArg (fun z => Outcome.returned (some (.int z))) (by simp [c1])), rfl⟩) dd_jm_max_10
  · refine lv_iload_n x.1 x.2.1 dd_jm_max_5 rfl (lv_at hl 0 rfl) ?_
    refine lv_goto (tgt := 10) x.1 x.2.1 dd_jm_max_6 (by decide) ?_
    exact mp_ri x hr hlk (by decide) (by decide) hH hS (fun _ => ⟨(congrArg (fun z => Outcome.returned (some (.int z))) (by simp [c1])), rfl⟩) dd_jm_max_10
theorem fd_xor {n : Nat} (h : n < 2 ^ 31) : ¬ nI n ^^^ nI 25 < 0 := by
  rw [Int32.lt_iff_toInt_lt]
  show ¬ (nI n ^^^ nI 25).toBitVec.toInt < (0 : Int32).toInt
  rw [Int32.toBitVec_xor]
  have h1 : (nI n).toBitVec.msb = false := by
    rw [BitVec.msb_eq_false_iff_two_mul_lt, pk_tn (by omega)]
    omega
  have h2 : ((nI n).toBitVec ^^^ (nI 25).toBitVec).msb = false := by
    rw [BitVec.msb_xor, h1]
    decide
  have h3 := BitVec.toInt_nonneg_of_msb_false h2
  have h4 : (0 : Int32).toInt = 0 := by decide
  rw [h4]
  omega
theorem fd_sub {a b : Nat} (h : a < b) (h2 : b ≤ a + 24) : ∃ k, k < 25 ∧ 0 < k ∧ nI a - nI b = - nI k := by
  refine ⟨b - a, by omega, by omega, ?_⟩
  have : nI b = nI a + nI (b - a) := by
    rw [nI_add]
    congr 1
    omega
  rw [this, Int32.sub_eq_add_neg, Int32.neg_add, Int32.sub_eq_add_neg, ← Int32.add_assoc, Int32.add_right_neg, Int32.zero_add]
theorem fd_neg {k : Nat} (h : k < 25) (h0 : 0 < k) : (- nI k) / nI 25 = 0 ∧ - nI k ^^^ nI 25 < 0 ∧ ¬ 0 * nI 25 = - nI k ∧ (0 : Int32) - nI 1 = -1 := by
  have : k = 1 ∨ k = 2 ∨ k = 3 ∨ k = 4 ∨ k = 5 ∨ k = 6 ∨ k = 7 ∨ k = 8 ∨ k = 9 ∨ k = 10 ∨ k = 11 ∨ k = 12 ∨ k = 13 ∨ k = 14 ∨ k = 15 ∨ k = 16 ∨ k = 17 ∨ k = 18 ∨ k = 19 ∨ k = 20 ∨ k = 21 ∨ k = 22 ∨ k = 23 ∨ k = 24 := by omega
  rcases this with rfl | rfl | rfl | rfl | rfl | rfl | rfl | rfl | rfl | rfl | rfl | rfl | rfl | rfl | rfl | rfl | rfl | rfl | rfl | rfl | rfl | rfl | rfl | rfl <;> decide +kernel
set_option maxRecDepth 100000 in
set_option maxHeartbeats 4000000 in
theorem kk_jm_fdP {l : Launch} {D : va_G} {ar : Nat → ClassId} {base : Nat} {σ : mp_M} {n : Nat} (hn : n < 2 ^ 31) : CN l D ar base yy_jm_floorDiv prog_14_method_47_code 3 (Option.some Jvm.ClassFile.FieldType.int) [] 0 0 0 0 [.int (nI n), .int (nI 25)] σ (fun o σ' _ => o = .returned (some (.int (nI (n / 25)))) ∧ σ' = σ) := by
  refine mp_in (Nat.le_of_ble_eq_true rfl) ?_
  intro p e R s m below meth c x hfr hlo hce hsl hr hlk hin hex hG hB ls H hH0 hH hS hl
  have hl : lv_has ls 3 [(0, .int (nI n)), (1, .int (nI 25))] := hl
  refine lv_iload_n x.1 x.2.1 dd_jm_floorDiv_0 rfl (lv_at hl 0 rfl) ?_
  refine lv_iload_n x.1 x.2.1 dd_jm_floorDiv_1 rfl (lv_at hl 1 rfl) ?_
  refine lv_idiv x.1 x.2.1 dd_jm_floorDiv_2 (by decide +kernel) ?_
  refine mn_top (w := nI (n / 25)) (pk_div (by omega) (by decide) (by decide)) ?_
  refine lv_istore_n (lv' := [(2, .int (nI (n / 25))), (0, .int (nI n)), (1, .int (nI 25))]) x.1 x.2.1 dd_jm_floorDiv_3 rfl hl (by decide) rfl (fun ls hl => ?_)
  refine lv_iload_n x.1 x.2.1 dd_jm_floorDiv_4 rfl (lv_at hl 1 rfl) ?_
  refine lv_iload_n x.1 x.2.1 dd_jm_floorDiv_5 rfl (lv_at hl 2 rfl) ?_
  refine lv_ixor x.1 x.2.1 dd_jm_floorDiv_6 ?_
  refine lv_if_ge (tgt := 21) x.1 x.2.1 dd_jm_floorDiv_7 (by decide) (fun c2 => ?_) (fun c2 => absurd (Int32.not_lt.mp (fd_xor hn)) c2)
  refine lv_iload_n x.1 x.2.1 dd_jm_floorDiv_21 rfl (lv_at hl 0 rfl) ?_
  exact mp_ri x hr hlk (by decide) (by decide) hH hS (fun _ => ⟨rfl, rfl⟩) dd_jm_floorDiv_22
set_option maxRecDepth 100000 in
set_option maxHeartbeats 4000000 in
theorem kk_jm_fdN {l : Launch} {D : va_G} {ar : Nat → ClassId} {base : Nat} {σ : mp_M} {k : Nat} (hk : k < 25) (h0 : 0 < k) : CN l D ar base yy_jm_floorDiv prog_14_method_47_code 3 (Option.some Jvm.ClassFile.FieldType.int) [] 0 0 0 0 [.int (- nI k), .int (nI 25)] σ (fun o σ' _ => o = .returned (some (.int (-1))) ∧ σ' = σ) := by
  refine mp_in (Nat.le_of_ble_eq_true rfl) ?_
  intro p e R s m below meth c x hfr hlo hce hsl hr hlk hin hex hG hB ls H hH0 hH hS hl
  have hl : lv_has ls 3 [(0, .int (- nI k)), (1, .int (nI 25))] := hl
  refine lv_iload_n x.1 x.2.1 dd_jm_floorDiv_0 rfl (lv_at hl 0 rfl) ?_
  refine lv_iload_n x.1 x.2.1 dd_jm_floorDiv_1 rfl (lv_at hl 1 rfl) ?_
  refine lv_idiv x.1 x.2.1 dd_jm_floorDiv_2 (by decide +kernel) ?_
  refine lv_istore_n (lv' := [(2, .int ((- nI k) / (nI 25))), (0, .int (- nI k)), (1, .int (nI 25))]) x.1 x.2.1 dd_jm_floorDiv_3 rfl hl (by decide) rfl (fun ls hl => ?_)
  refine lv_iload_n x.1 x.2.1 dd_jm_floorDiv_4 rfl (lv_at hl 1 rfl) ?_
  refine lv_iload_n x.1 x.2.1 dd_jm_floorDiv_5 rfl (lv_at hl 2 rfl) ?_
  refine lv_ixor x.1 x.2.1 dd_jm_floorDiv_6 ?_
  refine lv_if_ge (tgt := 21) x.1 x.2.1 dd_jm_floorDiv_7 (by decide) (fun c3 => absurd c3 (Int32.not_le.mpr (fd_neg hk h0).2.1)) (fun c3 => ?_)
  refine lv_iload_n x.1 x.2.1 dd_jm_floorDiv_10 rfl (lv_at hl 0 rfl) ?_
  refine lv_iload_n x.1 x.2.1 dd_jm_floorDiv_11 rfl (lv_at hl 2 rfl) ?_
  refine lv_imul x.1 x.2.1 dd_jm_floorDiv_12 ?_
  refine lv_iload_n x.1 x.2.1 dd_jm_floorDiv_13 rfl (lv_at hl 1 rfl) ?_
  refine lv_icmp_eq (tgt := 21) x.1 x.2.1 dd_jm_floorDiv_14 (by decide) (fun c4 => absurd c4 (by rw [(fd_neg hk h0).1]; exact (fd_neg hk h0).2.2.1)) (fun c4 => ?_)
  refine lv_iload_n x.1 x.2.1 dd_jm_floorDiv_17 rfl (lv_at hl 0 rfl) ?_
  refine lv_iconst (v := nI 1) x.1 x.2.1 dd_jm_floorDiv_18 (by decide +kernel) ?_
  refine lv_isub x.1 x.2.1 dd_jm_floorDiv_19 ?_
  exact mp_ri x hr hlk (by decide) (by decide) hH hS (fun _ => ⟨(congrArg (fun z => Outcome.returned (some (.int z))) (by rw [(fd_neg hk h0).1]; exact (fd_neg hk h0).2.2.2)), rfl⟩) dd_jm_floorDiv_20
def tcb (v : Int32) (c : Nat) : Int32 := (v >>> (nI c &&& 31)) &&& 1082401
def tec (v : Int32) : Int32 := if tcb v 0 = 0 ∨ tcb v 1 = 0 ∨ tcb v 2 = 0 ∨ tcb v 3 = 0 ∨ tcb v 4 = 0 then nI 0 else nI 1
def hwc (v : Int32) : Int32 := if tcb v 0 = 1082401 ∨ tcb v 1 = 1082401 ∨ tcb v 2 = 1082401 ∨ tcb v 3 = 1082401 ∨ tcb v 4 = 1082401 then nI 1 else nI 0
set_option maxRecDepth 100000 in
set_option maxHeartbeats 4000000 in
theorem kk_sg_touchesEachColumn {l : Launch} {D : va_G} {ar : Nat → ClassId} {base : Nat} {σ : mp_M} {k : Int32}  : CN l D ar base yy_sg_touchesEachColumn prog_1_method_33_code 2 (Option.some Jvm.ClassFile.FieldType.boolean) [] 0 0 0 0 [.int k] σ (fun o σ' _ => o = .returned (some (.int (tec k))) ∧ σ' = σ) := by
  refine mp_in (Nat.le_of_ble_eq_true rfl) ?_
  intro p e R s m below meth c x hfr hlo hce hsl hr hlk hin hex hG hB ls H hH0 hH hS hl
  have hl : lv_has ls 2 [(0, .int k)] := hl
  refine lv_iconst (v := nI 0) x.1 x.2.1 dd_sg_touchesEachColumn_0 (by decide +kernel) ?_
  refine lv_istore_n (lv' := [(1, .int (nI 0)), (0, .int k)]) x.1 x.2.1 dd_sg_touchesEachColumn_1 rfl hl (by decide) rfl (fun ls hl => ?_)
  refine lv_iload_n x.1 x.2.1 dd_sg_touchesEachColumn_2 rfl (lv_at hl 0 rfl) ?_
  refine lv_iconst (v := nI 5) x.1 x.2.1 dd_sg_touchesEachColumn_3 (by decide +kernel) ?_
  refine lv_icmp_ge (tgt := 25) x.1 x.2.1 dd_sg_touchesEachColumn_4 (by decide) (fun c5 => absurd c5 (by decide +kernel)) (fun c5 => ?_)
  refine lv_iload_n x.1 x.2.1 dd_sg_touchesEachColumn_7 rfl (lv_at hl 1 rfl) ?_
  refine lv_iload_n x.1 x.2.1 dd_sg_touchesEachColumn_8 rfl (lv_at hl 0 rfl) ?_
  refine lv_ishr x.1 x.2.1 dd_sg_touchesEachColumn_9 ?_
  refine lv_ldcw (v := 1082401) x.1 x.2.1 x.2.2.2.1 (x.2.2.2.2.1 _ ww_296) dd_sg_touchesEachColumn_10 ?_
  refine lv_iand x.1 x.2.1 dd_sg_touchesEachColumn_13 ?_
  refine lv_if_ne (tgt := 19) x.1 x.2.1 dd_sg_touchesEachColumn_14 (by decide) (fun c6 => ?_) (fun c6 => ?_)
  · refine lv_iinc (v := nI 1) (lv' := [(1, .int (nI 1)), (0, .int k)]) x.1 x.2.1 dd_sg_touchesEachColumn_19 hl (k := 0) rfl (mn_inc _) (by decide) rfl (fun ls hl => ?_)
    refine lv_goto (tgt := 2) x.1 x.2.1 dd_sg_touchesEachColumn_22 (by decide) ?_
    refine lv_iload_n x.1 x.2.1 dd_sg_touchesEachColumn_2 rfl (lv_at hl 0 rfl) ?_
    refine lv_iconst (v := nI 5) x.1 x.2.1 dd_sg_touchesEachColumn_3 (by decide +kernel) ?_
    refine lv_icmp_ge (tgt := 25) x.1 x.2.1 dd_sg_touchesEachColumn_4 (by decide) (fun c7 => absurd c7 (by decide +kernel)) (fun c7 => ?_)
    refine lv_iload_n x.1 x.2.1 dd_sg_touchesEachColumn_7 rfl (lv_at hl 1 rfl) ?_
    refine lv_iload_n x.1 x.2.1 dd_sg_touchesEachColumn_8 rfl (lv_at hl 0 rfl) ?_
    refine lv_ishr x.1 x.2.1 dd_sg_touchesEachColumn_9 ?_
    refine lv_ldcw (v := 1082401) x.1 x.2.1 x.2.2.2.1 (x.2.2.2.2.1 _ ww_296) dd_sg_touchesEachColumn_10 ?_
    refine lv_iand x.1 x.2.1 dd_sg_touchesEachColumn_13 ?_
    refine lv_if_ne (tgt := 19) x.1 x.2.1 dd_sg_touchesEachColumn_14 (by decide) (fun c8 => ?_) (fun c8 => ?_)
    · refine lv_iinc (v := nI 2) (lv' := [(1, .int (nI 2)), (0, .int k)]) x.1 x.2.1 dd_sg_touchesEachColumn_19 hl (k := 0) rfl (mn_inc _) (by decide) rfl (fun ls hl => ?_)
      refine lv_goto (tgt := 2) x.1 x.2.1 dd_sg_touchesEachColumn_22 (by decide) ?_
      refine lv_iload_n x.1 x.2.1 dd_sg_touchesEachColumn_2 rfl (lv_at hl 0 rfl) ?_
      refine lv_iconst (v := nI 5) x.1 x.2.1 dd_sg_touchesEachColumn_3 (by decide +kernel) ?_
      refine lv_icmp_ge (tgt := 25) x.1 x.2.1 dd_sg_touchesEachColumn_4 (by decide) (fun c9 => absurd c9 (by decide +kernel)) (fun c9 => ?_)
      refine lv_iload_n x.1 x.2.1 dd_sg_touchesEachColumn_7 rfl (lv_at hl 1 rfl) ?_
      refine lv_iload_n x.1 x.2.1 dd_sg_touchesEachColumn_8 rfl (lv_at hl 0 rfl) ?_
      refine lv_ishr x.1 x.2.1 dd_sg_touchesEachColumn_9 ?_
      refine lv_ldcw (v := 1082401) x.1 x.2.1 x.2.2.2.1 (x.2.2.2.2.1 _ ww_296) dd_sg_touchesEachColumn_10 ?_
      refine lv_iand x.1 x.2.1 dd_sg_touchesEachColumn_13 ?_
      refine lv_if_ne (tgt := 19) x.1 x.2.1 dd_sg_touchesEachColumn_14 (by decide) (fun c10 => ?_) (fun c10 => ?_)
      · refine lv_iinc (v := nI 3) (lv' := [(1, .int (nI 3)), (0, .int k)]) x.1 x.2.1 dd_sg_touchesEachColumn_19 hl (k := 0) rfl (mn_inc _) (by decide) rfl (fun ls hl => ?_)
        refine lv_goto (tgt := 2) x.1 x.2.1 dd_sg_touchesEachColumn_22 (by decide) ?_
        refine lv_iload_n x.1 x.2.1 dd_sg_touchesEachColumn_2 rfl (lv_at hl 0 rfl) ?_
        refine lv_iconst (v := nI 5) x.1 x.2.1 dd_sg_touchesEachColumn_3 (by decide +kernel) ?_
        refine lv_icmp_ge (tgt := 25) x.1 x.2.1 dd_sg_touchesEachColumn_4 (by decide) (fun c11 => absurd c11 (by decide +kernel)) (fun c11 => ?_)
        refine lv_iload_n x.1 x.2.1 dd_sg_touchesEachColumn_7 rfl (lv_at hl 1 rfl) ?_
        refine lv_iload_n x.1 x.2.1 dd_sg_touchesEachColumn_8 rfl (lv_at hl 0 rfl) ?_
        refine lv_ishr x.1 x.2.1 dd_sg_touchesEachColumn_9 ?_
        refine lv_ldcw (v := 1082401) x.1 x.2.1 x.2.2.2.1 (x.2.2.2.2.1 _ ww_296) dd_sg_touchesEachColumn_10 ?_
        refine lv_iand x.1 x.2.1 dd_sg_touchesEachColumn_13 ?_
        refine lv_if_ne (tgt := 19) x.1 x.2.1 dd_sg_touchesEachColumn_14 (by decide) (fun c12 => ?_) (fun c12 => ?_)
        · refine lv_iinc (v := nI 4) (lv' := [(1, .int (nI 4)), (0, .int k)]) x.1 x.2.1 dd_sg_touchesEachColumn_19 hl (k := 0) rfl (mn_inc _) (by decide) rfl (fun ls hl => ?_)
          refine lv_goto (tgt := 2) x.1 x.2.1 dd_sg_touchesEachColumn_22 (by decide) ?_
          refine lv_iload_n x.1 x.2.1 dd_sg_touchesEachColumn_2 rfl (lv_at hl 0 rfl) ?_
          refine lv_iconst (v := nI 5) x.1 x.2.1 dd_sg_touchesEachColumn_3 (by decide +kernel) ?_
          refine lv_icmp_ge (tgt := 25) x.1 x.2.1 dd_sg_touchesEachColumn_4 (by decide) (fun c13 => absurd c13 (by decide +kernel)) (fun c13 => ?_)
          refine lv_iload_n x.1 x.2.1 dd_sg_touchesEachColumn_7 rfl (lv_at hl 1 rfl) ?_
          refine lv_iload_n x.1 x.2.1 dd_sg_touchesEachColumn_8 rfl (lv_at hl 0 rfl) ?_
          refine lv_ishr x.1 x.2.1 dd_sg_touchesEachColumn_9 ?_
          refine lv_ldcw (v := 1082401) x.1 x.2.1 x.2.2.2.1 (x.2.2.2.2.1 _ ww_296) dd_sg_touchesEachColumn_10 ?_
          refine lv_iand x.1 x.2.1 dd_sg_touchesEachColumn_13 ?_
          refine lv_if_ne (tgt := 19) x.1 x.2.1 dd_sg_touchesEachColumn_14 (by decide) (fun c14 => ?_) (fun c14 => ?_)
          · refine lv_iinc (v := nI 5) (lv' := [(1, .int (nI 5)), (0, .int k)]) x.1 x.2.1 dd_sg_touchesEachColumn_19 hl (k := 0) rfl (mn_inc _) (by decide) rfl (fun ls hl => ?_)
            refine lv_goto (tgt := 2) x.1 x.2.1 dd_sg_touchesEachColumn_22 (by decide) ?_
            refine lv_iload_n x.1 x.2.1 dd_sg_touchesEachColumn_2 rfl (lv_at hl 0 rfl) ?_
            refine lv_iconst (v := nI 5) x.1 x.2.1 dd_sg_touchesEachColumn_3 (by decide +kernel) ?_
            refine lv_icmp_ge (tgt := 25) x.1 x.2.1 dd_sg_touchesEachColumn_4 (by decide) (fun c15 => ?_) (fun c15 => absurd (by decide +kernel) c15)
            refine lv_iconst (v := nI 1) x.1 x.2.1 dd_sg_touchesEachColumn_25 (by decide +kernel) ?_
            exact mp_rz x hr (by decide) hlk (by decide) (by decide) hH hS (fun _ => ⟨(congrArg (fun z => Outcome.returned (some (.int z))) (by simp [tec, tcb, c6, c8, c10, c12, c14])), rfl⟩) dd_sg_touchesEachColumn_26
          · refine lv_iconst (v := nI 0) x.1 x.2.1 dd_sg_touchesEachColumn_17 (by decide +kernel) ?_
            exact mp_rz x hr (by decide) hlk (by decide) (by decide) hH hS (fun _ => ⟨(congrArg (fun z => Outcome.returned (some (.int z))) (by simp [tec, tcb, c6, c8, c10, c12, c14])), rfl⟩) dd_sg_touchesEachColumn_18
        · refine lv_iconst (v := nI 0) x.1 x.2.1 dd_sg_touchesEachColumn_17 (by decide +kernel) ?_
          exact mp_rz x hr (by decide) hlk (by decide) (by decide) hH hS (fun _ => ⟨(congrArg (fun z => Outcome.returned (some (.int z))) (by simp [tec, tcb, c6, c8, c10, c12])), rfl⟩) dd_sg_touchesEachColumn_18
      · refine lv_iconst (v := nI 0) x.1 x.2.1 dd_sg_touchesEachColumn_17 (by decide +kernel) ?_
        exact mp_rz x hr (by decide) hlk (by decide) (by decide) hH hS (fun _ => ⟨(congrArg (fun z => Outcome.returned (some (.int z))) (by simp [tec, tcb, c6, c8, c10])), rfl⟩) dd_sg_touchesEachColumn_18
    · refine lv_iconst (v := nI 0) x.1 x.2.1 dd_sg_touchesEachColumn_17 (by decide +kernel) ?_
      exact mp_rz x hr (by decide) hlk (by decide) (by decide) hH hS (fun _ => ⟨(congrArg (fun z => Outcome.returned (some (.int z))) (by simp [tec, tcb, c6, c8])), rfl⟩) dd_sg_touchesEachColumn_18
  · refine lv_iconst (v := nI 0) x.1 x.2.1 dd_sg_touchesEachColumn_17 (by decide +kernel) ?_
    exact mp_rz x hr (by decide) hlk (by decide) (by decide) hH hS (fun _ => ⟨(congrArg (fun z => Outcome.returned (some (.int z))) (by simp [tec, tcb, c6])), rfl⟩) dd_sg_touchesEachColumn_18
set_option maxRecDepth 100000 in
set_option maxHeartbeats 4000000 in
theorem kk_sg_holdsWholeColumn {l : Launch} {D : va_G} {ar : Nat → ClassId} {base : Nat} {σ : mp_M} {k : Int32}  : CN l D ar base yy_sg_holdsWholeColumn prog_1_method_34_code 2 (Option.some Jvm.ClassFile.FieldType.boolean) [] 0 0 0 0 [.int k] σ (fun o σ' _ => o = .returned (some (.int (hwc k))) ∧ σ' = σ) := by
  refine mp_in (Nat.le_of_ble_eq_true rfl) ?_
  intro p e R s m below meth c x hfr hlo hce hsl hr hlk hin hex hG hB ls H hH0 hH hS hl
  have hl : lv_has ls 2 [(0, .int k)] := hl
  refine lv_iconst (v := nI 0) x.1 x.2.1 dd_sg_holdsWholeColumn_0 (by decide +kernel) ?_
  refine lv_istore_n (lv' := [(1, .int (nI 0)), (0, .int k)]) x.1 x.2.1 dd_sg_holdsWholeColumn_1 rfl hl (by decide) rfl (fun ls hl => ?_)
  refine lv_iload_n x.1 x.2.1 dd_sg_holdsWholeColumn_2 rfl (lv_at hl 0 rfl) ?_
  refine lv_iconst (v := nI 5) x.1 x.2.1 dd_sg_holdsWholeColumn_3 (by decide +kernel) ?_
  refine lv_icmp_ge (tgt := 28) x.1 x.2.1 dd_sg_holdsWholeColumn_4 (by decide) (fun c16 => absurd c16 (by decide +kernel)) (fun c16 => ?_)
  refine lv_iload_n x.1 x.2.1 dd_sg_holdsWholeColumn_7 rfl (lv_at hl 1 rfl) ?_
  refine lv_iload_n x.1 x.2.1 dd_sg_holdsWholeColumn_8 rfl (lv_at hl 0 rfl) ?_
  refine lv_ishr x.1 x.2.1 dd_sg_holdsWholeColumn_9 ?_
  refine lv_ldcw (v := 1082401) x.1 x.2.1 x.2.2.2.1 (x.2.2.2.2.1 _ ww_296) dd_sg_holdsWholeColumn_10 ?_
  refine lv_iand x.1 x.2.1 dd_sg_holdsWholeColumn_13 ?_
  refine lv_ldcw (v := 1082401) x.1 x.2.1 x.2.2.2.1 (x.2.2.2.2.1 _ ww_296) dd_sg_holdsWholeColumn_14 ?_
  refine lv_icmp_ne (tgt := 22) x.1 x.2.1 dd_sg_holdsWholeColumn_17 (by decide) (fun c17 => ?_) (fun c17 => ?_)
  · refine lv_iinc (v := nI 1) (lv' := [(1, .int (nI 1)), (0, .int k)]) x.1 x.2.1 dd_sg_holdsWholeColumn_22 hl (k := 0) rfl (mn_inc _) (by decide) rfl (fun ls hl => ?_)
    refine lv_goto (tgt := 2) x.1 x.2.1 dd_sg_holdsWholeColumn_25 (by decide) ?_
    refine lv_iload_n x.1 x.2.1 dd_sg_holdsWholeColumn_2 rfl (lv_at hl 0 rfl) ?_
    refine lv_iconst (v := nI 5) x.1 x.2.1 dd_sg_holdsWholeColumn_3 (by decide +kernel) ?_
    refine lv_icmp_ge (tgt := 28) x.1 x.2.1 dd_sg_holdsWholeColumn_4 (by decide) (fun c18 => absurd c18 (by decide +kernel)) (fun c18 => ?_)
    refine lv_iload_n x.1 x.2.1 dd_sg_holdsWholeColumn_7 rfl (lv_at hl 1 rfl) ?_
    refine lv_iload_n x.1 x.2.1 dd_sg_holdsWholeColumn_8 rfl (lv_at hl 0 rfl) ?_
    refine lv_ishr x.1 x.2.1 dd_sg_holdsWholeColumn_9 ?_
    refine lv_ldcw (v := 1082401) x.1 x.2.1 x.2.2.2.1 (x.2.2.2.2.1 _ ww_296) dd_sg_holdsWholeColumn_10 ?_
    refine lv_iand x.1 x.2.1 dd_sg_holdsWholeColumn_13 ?_
    refine lv_ldcw (v := 1082401) x.1 x.2.1 x.2.2.2.1 (x.2.2.2.2.1 _ ww_296) dd_sg_holdsWholeColumn_14 ?_
    refine lv_icmp_ne (tgt := 22) x.1 x.2.1 dd_sg_holdsWholeColumn_17 (by decide) (fun c19 => ?_) (fun c19 => ?_)
    · refine lv_iinc (v := nI 2) (lv' := [(1, .int (nI 2)), (0, .int k)]) x.1 x.2.1 dd_sg_holdsWholeColumn_22 hl (k := 0) rfl (mn_inc _) (by decide) rfl (fun ls hl => ?_)
      refine lv_goto (tgt := 2) x.1 x.2.1 dd_sg_holdsWholeColumn_25 (by decide) ?_
      refine lv_iload_n x.1 x.2.1 dd_sg_holdsWholeColumn_2 rfl (lv_at hl 0 rfl) ?_
      refine lv_iconst (v := nI 5) x.1 x.2.1 dd_sg_holdsWholeColumn_3 (by decide +kernel) ?_
      refine lv_icmp_ge (tgt := 28) x.1 x.2.1 dd_sg_holdsWholeColumn_4 (by decide) (fun c20 => absurd c20 (by decide +kernel)) (fun c20 => ?_)
      refine lv_iload_n x.1 x.2.1 dd_sg_holdsWholeColumn_7 rfl (lv_at hl 1 rfl) ?_
      refine lv_iload_n x.1 x.2.1 dd_sg_holdsWholeColumn_8 rfl (lv_at hl 0 rfl) ?_
      refine lv_ishr x.1 x.2.1 dd_sg_holdsWholeColumn_9 ?_
      refine lv_ldcw (v := 1082401) x.1 x.2.1 x.2.2.2.1 (x.2.2.2.2.1 _ ww_296) dd_sg_holdsWholeColumn_10 ?_
      refine lv_iand x.1 x.2.1 dd_sg_holdsWholeColumn_13 ?_
      refine lv_ldcw (v := 1082401) x.1 x.2.1 x.2.2.2.1 (x.2.2.2.2.1 _ ww_296) dd_sg_holdsWholeColumn_14 ?_
      refine lv_icmp_ne (tgt := 22) x.1 x.2.1 dd_sg_holdsWholeColumn_17 (by decide) (fun c21 => ?_) (fun c21 => ?_)
      · refine lv_iinc (v := nI 3) (lv' := [(1, .int (nI 3)), (0, .int k)]) x.1 x.2.1 dd_sg_holdsWholeColumn_22 hl (k := 0) rfl (mn_inc _) (by decide) rfl (fun ls hl => ?_)
        refine lv_goto (tgt := 2) x.1 x.2.1 dd_sg_holdsWholeColumn_25 (by decide) ?_
        refine lv_iload_n x.1 x.2.1 dd_sg_holdsWholeColumn_2 rfl (lv_at hl 0 rfl) ?_
        refine lv_iconst (v := nI 5) x.1 x.2.1 dd_sg_holdsWholeColumn_3 (by decide +kernel) ?_
        refine lv_icmp_ge (tgt := 28) x.1 x.2.1 dd_sg_holdsWholeColumn_4 (by decide) (fun c22 => absurd c22 (by decide +kernel)) (fun c22 => ?_)
        refine lv_iload_n x.1 x.2.1 dd_sg_holdsWholeColumn_7 rfl (lv_at hl 1 rfl) ?_
        refine lv_iload_n x.1 x.2.1 dd_sg_holdsWholeColumn_8 rfl (lv_at hl 0 rfl) ?_
        refine lv_ishr x.1 x.2.1 dd_sg_holdsWholeColumn_9 ?_
        refine lv_ldcw (v := 1082401) x.1 x.2.1 x.2.2.2.1 (x.2.2.2.2.1 _ ww_296) dd_sg_holdsWholeColumn_10 ?_
        refine lv_iand x.1 x.2.1 dd_sg_holdsWholeColumn_13 ?_
        refine lv_ldcw (v := 1082401) x.1 x.2.1 x.2.2.2.1 (x.2.2.2.2.1 _ ww_296) dd_sg_holdsWholeColumn_14 ?_
        refine lv_icmp_ne (tgt := 22) x.1 x.2.1 dd_sg_holdsWholeColumn_17 (by decide) (fun c23 => ?_) (fun c23 => ?_)
        · refine lv_iinc (v := nI 4) (lv' := [(1, .int (nI 4)), (0, .int k)]) x.1 x.2.1 dd_sg_holdsWholeColumn_22 hl (k := 0) rfl (mn_inc _) (by decide) rfl (fun ls hl => ?_)
          refine lv_goto (tgt := 2) x.1 x.2.1 dd_sg_holdsWholeColumn_25 (by decide) ?_
          refine lv_iload_n x.1 x.2.1 dd_sg_holdsWholeColumn_2 rfl (lv_at hl 0 rfl) ?_
          refine lv_iconst (v := nI 5) x.1 x.2.1 dd_sg_holdsWholeColumn_3 (by decide +kernel) ?_
          refine lv_icmp_ge (tgt := 28) x.1 x.2.1 dd_sg_holdsWholeColumn_4 (by decide) (fun c24 => absurd c24 (by decide +kernel)) (fun c24 => ?_)
          refine lv_iload_n x.1 x.2.1 dd_sg_holdsWholeColumn_7 rfl (lv_at hl 1 rfl) ?_
          refine lv_iload_n x.1 x.2.1 dd_sg_holdsWholeColumn_8 rfl (lv_at hl 0 rfl) ?_
          refine lv_ishr x.1 x.2.1 dd_sg_holdsWholeColumn_9 ?_
          refine lv_ldcw (v := 1082401) x.1 x.2.1 x.2.2.2.1 (x.2.2.2.2.1 _ ww_296) dd_sg_holdsWholeColumn_10 ?_
          refine lv_iand x.1 x.2.1 dd_sg_holdsWholeColumn_13 ?_
          refine lv_ldcw (v := 1082401) x.1 x.2.1 x.2.2.2.1 (x.2.2.2.2.1 _ ww_296) dd_sg_holdsWholeColumn_14 ?_
          refine lv_icmp_ne (tgt := 22) x.1 x.2.1 dd_sg_holdsWholeColumn_17 (by decide) (fun c25 => ?_) (fun c25 => ?_)
          · refine lv_iinc (v := nI 5) (lv' := [(1, .int (nI 5)), (0, .int k)]) x.1 x.2.1 dd_sg_holdsWholeColumn_22 hl (k := 0) rfl (mn_inc _) (by decide) rfl (fun ls hl => ?_)
            refine lv_goto (tgt := 2) x.1 x.2.1 dd_sg_holdsWholeColumn_25 (by decide) ?_
            refine lv_iload_n x.1 x.2.1 dd_sg_holdsWholeColumn_2 rfl (lv_at hl 0 rfl) ?_
            refine lv_iconst (v := nI 5) x.1 x.2.1 dd_sg_holdsWholeColumn_3 (by decide +kernel) ?_
            refine lv_icmp_ge (tgt := 28) x.1 x.2.1 dd_sg_holdsWholeColumn_4 (by decide) (fun c26 => ?_) (fun c26 => absurd (by decide +kernel) c26)
            refine lv_iconst (v := nI 0) x.1 x.2.1 dd_sg_holdsWholeColumn_28 (by decide +kernel) ?_
            exact mp_rz x hr (by decide) hlk (by decide) (by decide) hH hS (fun _ => ⟨(congrArg (fun z => Outcome.returned (some (.int z))) (by simp [hwc, tcb, c17, c19, c21, c23, c25])), rfl⟩) dd_sg_holdsWholeColumn_29
          · refine lv_iconst (v := nI 1) x.1 x.2.1 dd_sg_holdsWholeColumn_20 (by decide +kernel) ?_
            exact mp_rz x hr (by decide) hlk (by decide) (by decide) hH hS (fun _ => ⟨(congrArg (fun z => Outcome.returned (some (.int z))) (by simp [hwc, tcb, c17, c19, c21, c23, c25])), rfl⟩) dd_sg_holdsWholeColumn_21
        · refine lv_iconst (v := nI 1) x.1 x.2.1 dd_sg_holdsWholeColumn_20 (by decide +kernel) ?_
          exact mp_rz x hr (by decide) hlk (by decide) (by decide) hH hS (fun _ => ⟨(congrArg (fun z => Outcome.returned (some (.int z))) (by simp [hwc, tcb, c17, c19, c21, c23])), rfl⟩) dd_sg_holdsWholeColumn_21
      · refine lv_iconst (v := nI 1) x.1 x.2.1 dd_sg_holdsWholeColumn_20 (by decide +kernel) ?_
        exact mp_rz x hr (by decide) hlk (by decide) (by decide) hH hS (fun _ => ⟨(congrArg (fun z => Outcome.returned (some (.int z))) (by simp [hwc, tcb, c17, c19, c21])), rfl⟩) dd_sg_holdsWholeColumn_21
    · refine lv_iconst (v := nI 1) x.1 x.2.1 dd_sg_holdsWholeColumn_20 (by decide +kernel) ?_
      exact mp_rz x hr (by decide) hlk (by decide) (by decide) hH hS (fun _ => ⟨(congrArg (fun z => Outcome.returned (some (.int z))) (by simp [hwc, tcb, c17, c19])), rfl⟩) dd_sg_holdsWholeColumn_21
  · refine lv_iconst (v := nI 1) x.1 x.2.1 dd_sg_holdsWholeColumn_20 (by decide +kernel) ?_
    exact mp_rz x hr (by decide) hlk (by decide) (by decide) hH hS (fun _ => ⟨(congrArg (fun z => Outcome.returned (some (.int z))) (by simp [hwc, tcb, c17])), rfl⟩) dd_sg_holdsWholeColumn_21
def sO (v : Int32) : Int32 := if v < 0 then (-1) else v - v / nI 25 * nI 25
def dO (v : Int32) : Int32 := if v < 0 then (-1) else v / nI 25
set_option maxRecDepth 100000 in
set_option maxHeartbeats 4000000 in
theorem kk_sg_shopOf {l : Launch} {D : va_G} {ar : Nat → ClassId} {base : Nat} {σ : mp_M} {k : Int32}  : CN l D ar base yy_sg_shopOf prog_1_method_36_code 1 (Option.some Jvm.ClassFile.FieldType.int) [] 0 0 0 0 [.int k] σ (fun o σ' _ => o = .returned (some (.int (sO k))) ∧ σ' = σ) := by
  refine mp_in (Nat.le_of_ble_eq_true rfl) ?_
  intro p e R s m below meth c x hfr hlo hce hsl hr hlk hin hex hG hB ls H hH0 hH hS hl
  have hl : lv_has ls 1 [(0, .int k)] := hl
  refine lv_iload_n x.1 x.2.1 dd_sg_shopOf_0 rfl (lv_at hl 0 rfl) ?_
  refine lv_if_ge (tgt := 8) x.1 x.2.1 dd_sg_shopOf_1 (by decide) (fun c27 => ?_) (fun c27 => ?_)
  · refine lv_iload_n x.1 x.2.1 dd_sg_shopOf_8 rfl (lv_at hl 0 rfl) ?_
    refine lv_bipush (v := nI 25) x.1 x.2.1 dd_sg_shopOf_9 (by decide +kernel) ?_
    refine lv_irem x.1 x.2.1 dd_sg_shopOf_11 (by decide +kernel) ?_
    exact mp_ri x hr hlk (by decide) (by decide) hH hS (fun _ => ⟨(congrArg (fun z => Outcome.returned (some (.int z))) (by rw [sO, if_neg (Int32.not_lt.mpr c27)])), rfl⟩) dd_sg_shopOf_12
  · refine lv_iconst (v := (-1)) x.1 x.2.1 dd_sg_shopOf_4 (by decide +kernel) ?_
    refine lv_goto (tgt := 12) x.1 x.2.1 dd_sg_shopOf_5 (by decide) ?_
    exact mp_ri x hr hlk (by decide) (by decide) hH hS (fun _ => ⟨(congrArg (fun z => Outcome.returned (some (.int z))) (by simp [sO, c27])), rfl⟩) dd_sg_shopOf_12
set_option maxRecDepth 100000 in
set_option maxHeartbeats 4000000 in
theorem kk_sg_dayOf {l : Launch} {D : va_G} {ar : Nat → ClassId} {base : Nat} {σ : mp_M} {k : Int32}  : CN l D ar base yy_sg_dayOf prog_1_method_37_code 1 (Option.some Jvm.ClassFile.FieldType.int) [] 0 0 0 0 [.int k] σ (fun o σ' _ => o = .returned (some (.int (dO k))) ∧ σ' = σ) := by
  refine mp_in (Nat.le_of_ble_eq_true rfl) ?_
  intro p e R s m below meth c x hfr hlo hce hsl hr hlk hin hex hG hB ls H hH0 hH hS hl
  have hl : lv_has ls 1 [(0, .int k)] := hl
  refine lv_iload_n x.1 x.2.1 dd_sg_dayOf_0 rfl (lv_at hl 0 rfl) ?_
  refine lv_if_ge (tgt := 8) x.1 x.2.1 dd_sg_dayOf_1 (by decide) (fun c28 => ?_) (fun c28 => ?_)
  · refine lv_iload_n x.1 x.2.1 dd_sg_dayOf_8 rfl (lv_at hl 0 rfl) ?_
    refine lv_bipush (v := nI 25) x.1 x.2.1 dd_sg_dayOf_9 (by decide +kernel) ?_
    refine lv_idiv x.1 x.2.1 dd_sg_dayOf_11 (by decide +kernel) ?_
    exact mp_ri x hr hlk (by decide) (by decide) hH hS (fun _ => ⟨(congrArg (fun z => Outcome.returned (some (.int z))) (by rw [dO, if_neg (Int32.not_lt.mpr c28)])), rfl⟩) dd_sg_dayOf_12
  · refine lv_iconst (v := (-1)) x.1 x.2.1 dd_sg_dayOf_4 (by decide +kernel) ?_
    refine lv_goto (tgt := 12) x.1 x.2.1 dd_sg_dayOf_5 (by decide) ?_
    exact mp_ri x hr hlk (by decide) (by decide) hH hS (fun _ => ⟨(congrArg (fun z => Outcome.returned (some (.int z))) (by simp [dO, c28])), rfl⟩) dd_sg_dayOf_12
set_option maxRecDepth 100000 in
set_option maxHeartbeats 4000000 in
theorem kk_sg_pairOf {l : Launch} {D : va_G} {ar : Nat → ClassId} {base : Nat} {σ : mp_M} {k j : Int32}  : CN l D ar base yy_sg_pairOf prog_1_method_35_code 2 (Option.some Jvm.ClassFile.FieldType.int) [] 0 0 0 0 [.int k, .int j] σ (fun o σ' _ => o = .returned (some (.int (j * nI 25 + k))) ∧ σ' = σ) := by
  refine mp_in (Nat.le_of_ble_eq_true rfl) ?_
  intro p e R s m below meth c x hfr hlo hce hsl hr hlk hin hex hG hB ls H hH0 hH hS hl
  have hl : lv_has ls 2 [(0, .int k), (1, .int j)] := hl
  refine lv_iload_n x.1 x.2.1 dd_sg_pairOf_0 rfl (lv_at hl 1 rfl) ?_
  refine lv_bipush (v := nI 25) x.1 x.2.1 dd_sg_pairOf_1 (by decide +kernel) ?_
  refine lv_imul x.1 x.2.1 dd_sg_pairOf_3 ?_
  refine lv_iload_n x.1 x.2.1 dd_sg_pairOf_4 rfl (lv_at hl 0 rfl) ?_
  refine lv_iadd x.1 x.2.1 dd_sg_pairOf_5 ?_
  exact mp_ri x hr hlk (by decide) (by decide) hH hS (fun _ => ⟨rfl, rfl⟩) dd_sg_pairOf_6
def btc (k : Int32) : Int32 := (((((((k - ((((k).toUInt32 >>> ((nI 1 : Int32).toUInt32 &&& Int32.toUInt32 31)).toInt32) &&& 1431655765)) &&& 858993459) + ((((k - ((((k).toUInt32 >>> ((nI 1 : Int32).toUInt32 &&& Int32.toUInt32 31)).toInt32) &&& 1431655765)).toUInt32 >>> ((nI 2 : Int32).toUInt32 &&& Int32.toUInt32 31)).toInt32) &&& 858993459)) + (((((k - ((((k).toUInt32 >>> ((nI 1 : Int32).toUInt32 &&& Int32.toUInt32 31)).toInt32) &&& 1431655765)) &&& 858993459) + ((((k - ((((k).toUInt32 >>> ((nI 1 : Int32).toUInt32 &&& Int32.toUInt32 31)).toInt32) &&& 1431655765)).toUInt32 >>> ((nI 2 : Int32).toUInt32 &&& Int32.toUInt32 31)).toInt32) &&& 858993459)).toUInt32 >>> ((nI 4 : Int32).toUInt32 &&& Int32.toUInt32 31)).toInt32)) &&& 252645135) + (((((((k - ((((k).toUInt32 >>> ((nI 1 : Int32).toUInt32 &&& Int32.toUInt32 31)).toInt32) &&& 1431655765)) &&& 858993459) + ((((k - ((((k).toUInt32 >>> ((nI 1 : Int32).toUInt32 &&& Int32.toUInt32 31)).toInt32) &&& 1431655765)).toUInt32 >>> ((nI 2 : Int32).toUInt32 &&& Int32.toUInt32 31)).toInt32) &&& 858993459)) + (((((k - ((((k).toUInt32 >>> ((nI 1 : Int32).toUInt32 &&& Int32.toUInt32 31)).toInt32) &&& 1431655765)) &&& 858993459) + ((((k - ((((k).toUInt32 >>> ((nI 1 : Int32).toUInt32 &&& Int32.toUInt32 31)).toInt32) &&& 1431655765)).toUInt32 >>> ((nI 2 : Int32).toUInt32 &&& Int32.toUInt32 31)).toInt32) &&& 858993459)).toUInt32 >>> ((nI 4 : Int32).toUInt32 &&& Int32.toUInt32 31)).toInt32)) &&& 252645135).toUInt32 >>> ((nI 8 : Int32).toUInt32 &&& Int32.toUInt32 31)).toInt32)) + ((((((((k - ((((k).toUInt32 >>> ((nI 1 : Int32).toUInt32 &&& Int32.toUInt32 31)).toInt32) &&& 1431655765)) &&& 858993459) + ((((k - ((((k).toUInt32 >>> ((nI 1 : Int32).toUInt32 &&& Int32.toUInt32 31)).toInt32) &&& 1431655765)).toUInt32 >>> ((nI 2 : Int32).toUInt32 &&& Int32.toUInt32 31)).toInt32) &&& 858993459)) + (((((k - ((((k).toUInt32 >>> ((nI 1 : Int32).toUInt32 &&& Int32.toUInt32 31)).toInt32) &&& 1431655765)) &&& 858993459) + ((((k - ((((k).toUInt32 >>> ((nI 1 : Int32).toUInt32 &&& Int32.toUInt32 31)).toInt32) &&& 1431655765)).toUInt32 >>> ((nI 2 : Int32).toUInt32 &&& Int32.toUInt32 31)).toInt32) &&& 858993459)).toUInt32 >>> ((nI 4 : Int32).toUInt32 &&& Int32.toUInt32 31)).toInt32)) &&& 252645135) + (((((((k - ((((k).toUInt32 >>> ((nI 1 : Int32).toUInt32 &&& Int32.toUInt32 31)).toInt32) &&& 1431655765)) &&& 858993459) + ((((k - ((((k).toUInt32 >>> ((nI 1 : Int32).toUInt32 &&& Int32.toUInt32 31)).toInt32) &&& 1431655765)).toUInt32 >>> ((nI 2 : Int32).toUInt32 &&& Int32.toUInt32 31)).toInt32) &&& 858993459)) + (((((k - ((((k).toUInt32 >>> ((nI 1 : Int32).toUInt32 &&& Int32.toUInt32 31)).toInt32) &&& 1431655765)) &&& 858993459) + ((((k - ((((k).toUInt32 >>> ((nI 1 : Int32).toUInt32 &&& Int32.toUInt32 31)).toInt32) &&& 1431655765)).toUInt32 >>> ((nI 2 : Int32).toUInt32 &&& Int32.toUInt32 31)).toInt32) &&& 858993459)).toUInt32 >>> ((nI 4 : Int32).toUInt32 &&& Int32.toUInt32 31)).toInt32)) &&& 252645135).toUInt32 >>> ((nI 8 : Int32).toUInt32 &&& Int32.toUInt32 31)).toInt32)).toUInt32 >>> ((nI 16 : Int32).toUInt32 &&& Int32.toUInt32 31)).toInt32)) &&& (nI 63)
set_option maxRecDepth 100000 in
set_option maxHeartbeats 4000000 in
theorem kk_ji_bitCount {l : Launch} {D : va_G} {ar : Nat → ClassId} {base : Nat} {σ : mp_M} {k : Int32}  : CN l D ar base yy_ji_bitCount prog_13_method_49_code 1 (Option.some Jvm.ClassFile.FieldType.int) [] 0 0 0 0 [.int k] σ (fun o σ' _ => o = .returned (some (.int (btc k))) ∧ σ' = σ) := by
  refine mp_in (Nat.le_of_ble_eq_true rfl) ?_
  intro p e R s m below meth c x hfr hlo hce hsl hr hlk hin hex hG hB ls H hH0 hH hS hl
  have hl : lv_has ls 1 [(0, .int k)] := hl
  refine lv_iload_n x.1 x.2.1 dd_ji_bitCount_0 rfl (lv_at hl 0 rfl) ?_
  refine lv_iload_n x.1 x.2.1 dd_ji_bitCount_1 rfl (lv_at hl 0 rfl) ?_
  refine lv_iconst (v := nI 1) x.1 x.2.1 dd_ji_bitCount_2 (by decide +kernel) ?_
  refine lv_iushr (v := ((k).toUInt32 >>> ((nI 1 : Int32).toUInt32 &&& Int32.toUInt32 31)).toInt32) x.1 x.2.1 dd_ji_bitCount_3 rfl ?_
  refine lv_ldcw (v := 1431655765) x.1 x.2.1 x.2.2.2.1 (x.2.2.2.2.1 _ ww_698) dd_ji_bitCount_4 ?_
  refine lv_iand x.1 x.2.1 dd_ji_bitCount_7 ?_
  refine lv_isub x.1 x.2.1 dd_ji_bitCount_8 ?_
  refine lv_istore_n (lv' := [(0, .int (k - ((((k).toUInt32 >>> ((nI 1 : Int32).toUInt32 &&& Int32.toUInt32 31)).toInt32) &&& 1431655765)))]) x.1 x.2.1 dd_ji_bitCount_9 rfl hl (by decide) rfl (fun ls hl => ?_)
  refine lv_iload_n x.1 x.2.1 dd_ji_bitCount_10 rfl (lv_at hl 0 rfl) ?_
  refine lv_ldcw (v := 858993459) x.1 x.2.1 x.2.2.2.1 (x.2.2.2.2.1 _ ww_699) dd_ji_bitCount_11 ?_
  refine lv_iand x.1 x.2.1 dd_ji_bitCount_14 ?_
  refine lv_iload_n x.1 x.2.1 dd_ji_bitCount_15 rfl (lv_at hl 0 rfl) ?_
  refine lv_iconst (v := nI 2) x.1 x.2.1 dd_ji_bitCount_16 (by decide +kernel) ?_
  refine lv_iushr (v := ((k - ((((k).toUInt32 >>> ((nI 1 : Int32).toUInt32 &&& Int32.toUInt32 31)).toInt32) &&& 1431655765)).toUInt32 >>> ((nI 2 : Int32).toUInt32 &&& Int32.toUInt32 31)).toInt32) x.1 x.2.1 dd_ji_bitCount_17 rfl ?_
  refine lv_ldcw (v := 858993459) x.1 x.2.1 x.2.2.2.1 (x.2.2.2.2.1 _ ww_699) dd_ji_bitCount_18 ?_
  refine lv_iand x.1 x.2.1 dd_ji_bitCount_21 ?_
  refine lv_iadd x.1 x.2.1 dd_ji_bitCount_22 ?_
  refine lv_istore_n (lv' := [(0, .int (((k - ((((k).toUInt32 >>> ((nI 1 : Int32).toUInt32 &&& Int32.toUInt32 31)).toInt32) &&& 1431655765)) &&& 858993459) + ((((k - ((((k).toUInt32 >>> ((nI 1 : Int32).toUInt32 &&& Int32.toUInt32 31)).toInt32) &&& 1431655765)).toUInt32 >>> ((nI 2 : Int32).toUInt32 &&& Int32.toUInt32 31)).toInt32) &&& 858993459)))]) x.1 x.2.1 dd_ji_bitCount_23 rfl hl (by decide) rfl (fun ls hl => ?_)
  refine lv_iload_n x.1 x.2.1 dd_ji_bitCount_24 rfl (lv_at hl 0 rfl) ?_
  refine lv_iload_n x.1 x.2.1 dd_ji_bitCount_25 rfl (lv_at hl 0 rfl) ?_
  refine lv_iconst (v := nI 4) x.1 x.2.1 dd_ji_bitCount_26 (by decide +kernel) ?_
  refine lv_iushr (v := ((((k - ((((k).toUInt32 >>> ((nI 1 : Int32).toUInt32 &&& Int32.toUInt32 31)).toInt32) &&& 1431655765)) &&& 858993459) + ((((k - ((((k).toUInt32 >>> ((nI 1 : Int32).toUInt32 &&& Int32.toUInt32 31)).toInt32) &&& 1431655765)).toUInt32 >>> ((nI 2 : Int32).toUInt32 &&& Int32.toUInt32 31)).toInt32) &&& 858993459)).toUInt32 >>> ((nI 4 : Int32).toUInt32 &&& Int32.toUInt32 31)).toInt32) x.1 x.2.1 dd_ji_bitCount_27 rfl ?_
  refine lv_iadd x.1 x.2.1 dd_ji_bitCount_28 ?_
  refine lv_ldcw (v := 252645135) x.1 x.2.1 x.2.2.2.1 (x.2.2.2.2.1 _ ww_700) dd_ji_bitCount_29 ?_
  refine lv_iand x.1 x.2.1 dd_ji_bitCount_32 ?_
  refine lv_istore_n (lv' := [(0, .int (((((k - ((((k).toUInt32 >>> ((nI 1 : Int32).toUInt32 &&& Int32.toUInt32 31)).toInt32) &&& 1431655765)) &&& 858993459) + ((((k - ((((k).toUInt32 >>> ((nI 1 : Int32).toUInt32 &&& Int32.toUInt32 31)).toInt32) &&& 1431655765)).toUInt32 >>> ((nI 2 : Int32).toUInt32 &&& Int32.toUInt32 31)).toInt32) &&& 858993459)) + (((((k - ((((k).toUInt32 >>> ((nI 1 : Int32).toUInt32 &&& Int32.toUInt32 31)).toInt32) &&& 1431655765)) &&& 858993459) + ((((k - ((((k).toUInt32 >>> ((nI 1 : Int32).toUInt32 &&& Int32.toUInt32 31)).toInt32) &&& 1431655765)).toUInt32 >>> ((nI 2 : Int32).toUInt32 &&& Int32.toUInt32 31)).toInt32) &&& 858993459)).toUInt32 >>> ((nI 4 : Int32).toUInt32 &&& Int32.toUInt32 31)).toInt32)) &&& 252645135))]) x.1 x.2.1 dd_ji_bitCount_33 rfl hl (by decide) rfl (fun ls hl => ?_)
  refine lv_iload_n x.1 x.2.1 dd_ji_bitCount_34 rfl (lv_at hl 0 rfl) ?_
  refine lv_iload_n x.1 x.2.1 dd_ji_bitCount_35 rfl (lv_at hl 0 rfl) ?_
  refine lv_bipush (v := nI 8) x.1 x.2.1 dd_ji_bitCount_36 (by decide +kernel) ?_
  refine lv_iushr (v := ((((((k - ((((k).toUInt32 >>> ((nI 1 : Int32).toUInt32 &&& Int32.toUInt32 31)).toInt32) &&& 1431655765)) &&& 858993459) + ((((k - ((((k).toUInt32 >>> ((nI 1 : Int32).toUInt32 &&& Int32.toUInt32 31)).toInt32) &&& 1431655765)).toUInt32 >>> ((nI 2 : Int32).toUInt32 &&& Int32.toUInt32 31)).toInt32) &&& 858993459)) + (((((k - ((((k).toUInt32 >>> ((nI 1 : Int32).toUInt32 &&& Int32.toUInt32 31)).toInt32) &&& 1431655765)) &&& 858993459) + ((((k - ((((k).toUInt32 >>> ((nI 1 : Int32).toUInt32 &&& Int32.toUInt32 31)).toInt32) &&& 1431655765)).toUInt32 >>> ((nI 2 : Int32).toUInt32 &&& Int32.toUInt32 31)).toInt32) &&& 858993459)).toUInt32 >>> ((nI 4 : Int32).toUInt32 &&& Int32.toUInt32 31)).toInt32)) &&& 252645135).toUInt32 >>> ((nI 8 : Int32).toUInt32 &&& Int32.toUInt32 31)).toInt32) x.1 x.2.1 dd_ji_bitCount_38 rfl ?_
  refine lv_iadd x.1 x.2.1 dd_ji_bitCount_39 ?_
  refine lv_istore_n (lv' := [(0, .int ((((((k - ((((k).toUInt32 >>> ((nI 1 : Int32).toUInt32 &&& Int32.toUInt32 31)).toInt32) &&& 1431655765)) &&& 858993459) + ((((k - ((((k).toUInt32 >>> ((nI 1 : Int32).toUInt32 &&& Int32.toUInt32 31)).toInt32) &&& 1431655765)).toUInt32 >>> ((nI 2 : Int32).toUInt32 &&& Int32.toUInt32 31)).toInt32) &&& 858993459)) + (((((k - ((((k).toUInt32 >>> ((nI 1 : Int32).toUInt32 &&& Int32.toUInt32 31)).toInt32) &&& 1431655765)) &&& 858993459) + ((((k - ((((k).toUInt32 >>> ((nI 1 : Int32).toUInt32 &&& Int32.toUInt32 31)).toInt32) &&& 1431655765)).toUInt32 >>> ((nI 2 : Int32).toUInt32 &&& Int32.toUInt32 31)).toInt32) &&& 858993459)).toUInt32 >>> ((nI 4 : Int32).toUInt32 &&& Int32.toUInt32 31)).toInt32)) &&& 252645135) + (((((((k - ((((k).toUInt32 >>> ((nI 1 : Int32).toUInt32 &&& Int32.toUInt32 31)).toInt32) &&& 1431655765)) &&& 858993459) + ((((k - ((((k).toUInt32 >>> ((nI 1 : Int32).toUInt32 &&& Int32.toUInt32 31)).toInt32) &&& 1431655765)).toUInt32 >>> ((nI 2 : Int32).toUInt32 &&& Int32.toUInt32 31)).toInt32) &&& 858993459)) + (((((k - ((((k).toUInt32 >>> ((nI 1 : Int32).toUInt32 &&& Int32.toUInt32 31)).toInt32) &&& 1431655765)) &&& 858993459) + ((((k - ((((k).toUInt32 >>> ((nI 1 : Int32).toUInt32 &&& Int32.toUInt32 31)).toInt32) &&& 1431655765)).toUInt32 >>> ((nI 2 : Int32).toUInt32 &&& Int32.toUInt32 31)).toInt32) &&& 858993459)).toUInt32 >>> ((nI 4 : Int32).toUInt32 &&& Int32.toUInt32 31)).toInt32)) &&& 252645135).toUInt32 >>> ((nI 8 : Int32).toUInt32 &&& Int32.toUInt32 31)).toInt32)))]) x.1 x.2.1 dd_ji_bitCount_40 rfl hl (by decide) rfl (fun ls hl => ?_)
  refine lv_iload_n x.1 x.2.1 dd_ji_bitCount_41 rfl (lv_at hl 0 rfl) ?_
  refine lv_iload_n x.1 x.2.1 dd_ji_bitCount_42 rfl (lv_at hl 0 rfl) ?_
  refine lv_bipush (v := nI 16) x.1 x.2.1 dd_ji_bitCount_43 (by decide +kernel) ?_
  refine lv_iushr (v := (((((((k - ((((k).toUInt32 >>> ((nI 1 : Int32).toUInt32 &&& Int32.toUInt32 31)).toInt32) &&& 1431655765)) &&& 858993459) + ((((k - ((((k).toUInt32 >>> ((nI 1 : Int32).toUInt32 &&& Int32.toUInt32 31)).toInt32) &&& 1431655765)).toUInt32 >>> ((nI 2 : Int32).toUInt32 &&& Int32.toUInt32 31)).toInt32) &&& 858993459)) + (((((k - ((((k).toUInt32 >>> ((nI 1 : Int32).toUInt32 &&& Int32.toUInt32 31)).toInt32) &&& 1431655765)) &&& 858993459) + ((((k - ((((k).toUInt32 >>> ((nI 1 : Int32).toUInt32 &&& Int32.toUInt32 31)).toInt32) &&& 1431655765)).toUInt32 >>> ((nI 2 : Int32).toUInt32 &&& Int32.toUInt32 31)).toInt32) &&& 858993459)).toUInt32 >>> ((nI 4 : Int32).toUInt32 &&& Int32.toUInt32 31)).toInt32)) &&& 252645135) + (((((((k - ((((k).toUInt32 >>> ((nI 1 : Int32).toUInt32 &&& Int32.toUInt32 31)).toInt32) &&& 1431655765)) &&& 858993459) + ((((k - ((((k).toUInt32 >>> ((nI 1 : Int32).toUInt32 &&& Int32.toUInt32 31)).toInt32) &&& 1431655765)).toUInt32 >>> ((nI 2 : Int32).toUInt32 &&& Int32.toUInt32 31)).toInt32) &&& 858993459)) + (((((k - ((((k).toUInt32 >>> ((nI 1 : Int32).toUInt32 &&& Int32.toUInt32 31)).toInt32) &&& 1431655765)) &&& 858993459) + ((((k - ((((k).toUInt32 >>> ((nI 1 : Int32).toUInt32 &&& Int32.toUInt32 31)).toInt32) &&& 1431655765)).toUInt32 >>> ((nI 2 : Int32).toUInt32 &&& Int32.toUInt32 31)).toInt32) &&& 858993459)).toUInt32 >>> ((nI 4 : Int32).toUInt32 &&& Int32.toUInt32 31)).toInt32)) &&& 252645135).toUInt32 >>> ((nI 8 : Int32).toUInt32 &&& Int32.toUInt32 31)).toInt32)).toUInt32 >>> ((nI 16 : Int32).toUInt32 &&& Int32.toUInt32 31)).toInt32) x.1 x.2.1 dd_ji_bitCount_45 rfl ?_
  refine lv_iadd x.1 x.2.1 dd_ji_bitCount_46 ?_
  refine lv_istore_n (lv' := [(0, .int (((((((k - ((((k).toUInt32 >>> ((nI 1 : Int32).toUInt32 &&& Int32.toUInt32 31)).toInt32) &&& 1431655765)) &&& 858993459) + ((((k - ((((k).toUInt32 >>> ((nI 1 : Int32).toUInt32 &&& Int32.toUInt32 31)).toInt32) &&& 1431655765)).toUInt32 >>> ((nI 2 : Int32).toUInt32 &&& Int32.toUInt32 31)).toInt32) &&& 858993459)) + (((((k - ((((k).toUInt32 >>> ((nI 1 : Int32).toUInt32 &&& Int32.toUInt32 31)).toInt32) &&& 1431655765)) &&& 858993459) + ((((k - ((((k).toUInt32 >>> ((nI 1 : Int32).toUInt32 &&& Int32.toUInt32 31)).toInt32) &&& 1431655765)).toUInt32 >>> ((nI 2 : Int32).toUInt32 &&& Int32.toUInt32 31)).toInt32) &&& 858993459)).toUInt32 >>> ((nI 4 : Int32).toUInt32 &&& Int32.toUInt32 31)).toInt32)) &&& 252645135) + (((((((k - ((((k).toUInt32 >>> ((nI 1 : Int32).toUInt32 &&& Int32.toUInt32 31)).toInt32) &&& 1431655765)) &&& 858993459) + ((((k - ((((k).toUInt32 >>> ((nI 1 : Int32).toUInt32 &&& Int32.toUInt32 31)).toInt32) &&& 1431655765)).toUInt32 >>> ((nI 2 : Int32).toUInt32 &&& Int32.toUInt32 31)).toInt32) &&& 858993459)) + (((((k - ((((k).toUInt32 >>> ((nI 1 : Int32).toUInt32 &&& Int32.toUInt32 31)).toInt32) &&& 1431655765)) &&& 858993459) + ((((k - ((((k).toUInt32 >>> ((nI 1 : Int32).toUInt32 &&& Int32.toUInt32 31)).toInt32) &&& 1431655765)).toUInt32 >>> ((nI 2 : Int32).toUInt32 &&& Int32.toUInt32 31)).toInt32) &&& 858993459)).toUInt32 >>> ((nI 4 : Int32).toUInt32 &&& Int32.toUInt32 31)).toInt32)) &&& 252645135).toUInt32 >>> ((nI 8 : Int32).toUInt32 &&& Int32.toUInt32 31)).toInt32)) + ((((((((k - ((((k).toUInt32 >>> ((nI 1 : Int32).toUInt32 &&& Int32.toUInt32 31)).toInt32) &&& 1431655765)) &&& 858993459) + ((((k - ((((k).toUInt32 >>> ((nI 1 : Int32).toUInt32 &&& Int32.toUInt32 31)).toInt32) &&& 1431655765)).toUInt32 >>> ((nI 2 : Int32).toUInt32 &&& Int32.toUInt32 31)).toInt32) &&& 858993459)) + (((((k - ((((k).toUInt32 >>> ((nI 1 : Int32).toUInt32 &&& Int32.toUInt32 31)).toInt32) &&& 1431655765)) &&& 858993459) + ((((k - ((((k).toUInt32 >>> ((nI 1 : Int32).toUInt32 &&& Int32.toUInt32 31)).toInt32) &&& 1431655765)).toUInt32 >>> ((nI 2 : Int32).toUInt32 &&& Int32.toUInt32 31)).toInt32) &&& 858993459)).toUInt32 >>> ((nI 4 : Int32).toUInt32 &&& Int32.toUInt32 31)).toInt32)) &&& 252645135) + (((((((k - ((((k).toUInt32 >>> ((nI 1 : Int32).toUInt32 &&& Int32.toUInt32 31)).toInt32) &&& 1431655765)) &&& 858993459) + ((((k - ((((k).toUInt32 >>> ((nI 1 : Int32).toUInt32 &&& Int32.toUInt32 31)).toInt32) &&& 1431655765)).toUInt32 >>> ((nI 2 : Int32).toUInt32 &&& Int32.toUInt32 31)).toInt32) &&& 858993459)) + (((((k - ((((k).toUInt32 >>> ((nI 1 : Int32).toUInt32 &&& Int32.toUInt32 31)).toInt32) &&& 1431655765)) &&& 858993459) + ((((k - ((((k).toUInt32 >>> ((nI 1 : Int32).toUInt32 &&& Int32.toUInt32 31)).toInt32) &&& 1431655765)).toUInt32 >>> ((nI 2 : Int32).toUInt32 &&& Int32.toUInt32 31)).toInt32) &&& 858993459)).toUInt32 >>> ((nI 4 : Int32).toUInt32 &&& Int32.toUInt32 31)).toInt32)) &&& 252645135).toUInt32 >>> ((nI 8 : Int32).toUInt32 &&& Int32.toUInt32 31)).toInt32)).toUInt32 >>> ((nI 16 : Int32).toUInt32 &&& Int32.toUInt32 31)).toInt32)))]) x.1 x.2.1 dd_ji_bitCount_47 rfl hl (by decide) rfl (fun ls hl => ?_)
  refine lv_iload_n x.1 x.2.1 dd_ji_bitCount_48 rfl (lv_at hl 0 rfl) ?_
  refine lv_bipush (v := nI 63) x.1 x.2.1 dd_ji_bitCount_49 (by decide +kernel) ?_
  refine lv_iand x.1 x.2.1 dd_ji_bitCount_51 ?_
  exact mp_ri x hr hlk (by decide) (by decide) hH hS (fun _ => ⟨rfl, rfl⟩) dd_ji_bitCount_52
