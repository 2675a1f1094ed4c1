/-! SUPPLYGRID'S OWN STEPS over the flat state. -/
def upb (V : fV) (k : Int32) : Bool := decide ((V 59 0 >>> (k &&& 31)) &&& nI 1 = nI 1)
def dx (rg : Nat → Bool) (a0 b0 : Nat) : Nat := if rg b0 = true then 20 * a0 + b0 else 500
theorem dx_dk {rg : Nat → Bool} {a0 b0 : Nat} (ha : a0 < 25) (hb : b0 < 20) : dk rg (dx rg a0 b0) := by
  unfold dx
  by_cases h : rg b0 = true
  · rw [if_pos h]
    refine Or.inr ⟨by omega, ?_⟩
    have : (20 * a0 + b0) % 20 = b0 := by omega
    rw [this]; exact h
  · rw [if_neg h]; exact Or.inl rfl
set_option maxRecDepth 100000 in
set_option maxHeartbeats 4000000 in
theorem kk_G_within_ok {l : Launch} {D : va_G} {ar : Nat → ClassId} {base : Nat} {σ : mp_M} {k a b : Int32} (hfl : l.flags = flags0) (hQ : ¬ (k < a ∨ b < k)) : CN l D ar base yy_sg_needWithin prog_1_method_18_code 3 (Option.none : Option Jvm.ClassFile.FieldType) [] 6 82 1 6 [.int k, .int a, .int b] σ (fun o σ' _ => o = .returned none ∧ σ' = σ) := by
  refine mp_in (Nat.le_of_ble_eq_true rfl) ?_
  intro p e R s m below meth c x hfr hlo hce hsl hr hlk hin hex hG hB ls H hH0 hH hS hl
  have hl : lv_has ls 3 [(0, .int k), (1, .int a), (2, .int b)] := hl
  refine lv_iload_n x.1 x.2.1 dd_sg_needWithin_0 rfl (lv_at hl 0 rfl) ?_
  refine lv_iload_n x.1 x.2.1 dd_sg_needWithin_1 rfl (lv_at hl 1 rfl) ?_
  refine lv_icmp_lt (tgt := 10) x.1 x.2.1 dd_sg_needWithin_2 (by decide) (fun c104 => ?_) (fun c104 => ?_)
  · exact kx_throw x hG hB hl.1 hfl hlk hex (cls := mp_iae) (tx := "a number is not as it may be") (by decide +kernel) ww_312 ww_313 ww_64 mp_own_iae rfl (by decide +kernel) dd_sg_needWithin_10 dd_sg_needWithin_13 dd_sg_needWithin_14 dd_sg_needWithin_16 dd_sg_needWithin_19 (Nat.le_trans (Nat.le_of_ble_eq_true rfl) hfr) (Nat.le_trans (Nat.le_of_ble_eq_true rfl) hlo) (Nat.le_trans (Nat.le_of_ble_eq_true rfl) hce) (Nat.le_trans (Nat.le_of_ble_eq_true rfl) hsl) (by decide) (by decide) hH hS (fun t a hT => absurd (Or.inl c104) hQ)
  · refine lv_iload_n x.1 x.2.1 dd_sg_needWithin_5 rfl (lv_at hl 0 rfl) ?_
    refine lv_iload_n x.1 x.2.1 dd_sg_needWithin_6 rfl (lv_at hl 2 rfl) ?_
    refine lv_icmp_le (tgt := 20) x.1 x.2.1 dd_sg_needWithin_7 (by decide) (fun c105 => ?_) (fun c105 => ?_)
    · exact mp_rv x hr hlk (by decide) (by decide) hH hS (fun _ => ⟨rfl, rfl⟩) dd_sg_needWithin_20
    · exact kx_throw x hG hB hl.1 hfl hlk hex (cls := mp_iae) (tx := "a number is not as it may be") (by decide +kernel) ww_312 ww_313 ww_64 mp_own_iae rfl (by decide +kernel) dd_sg_needWithin_10 dd_sg_needWithin_13 dd_sg_needWithin_14 dd_sg_needWithin_16 dd_sg_needWithin_19 (Nat.le_trans (Nat.le_of_ble_eq_true rfl) hfr) (Nat.le_trans (Nat.le_of_ble_eq_true rfl) hlo) (Nat.le_trans (Nat.le_of_ble_eq_true rfl) hce) (Nat.le_trans (Nat.le_of_ble_eq_true rfl) hsl) (by decide) (by decide) hH hS (fun t a hT => absurd (Or.inr (Int32.not_le.mp c105)) hQ)
set_option maxRecDepth 100000 in
set_option maxHeartbeats 4000000 in
theorem kk_G_within_no {l : Launch} {D : va_G} {ar : Nat → ClassId} {base : Nat} {σ : mp_M} {k a b : Int32} (hfl : l.flags = flags0) (hQ : k < a ∨ b < k) : CN l D ar base yy_sg_needWithin prog_1_method_18_code 3 (Option.none : Option Jvm.ClassFile.FieldType) [] 6 82 1 6 [.int k, .int a, .int b] σ (fun o σ' t => ∃ a, o = .threw a ∧ mp_T mp_iae a t ∧ σ' = σ) := by
  refine mp_in (Nat.le_of_ble_eq_true rfl) ?_
  intro p e R s m below meth c x hfr hlo hce hsl hr hlk hin hex hG hB ls H hH0 hH hS hl
  have hl : lv_has ls 3 [(0, .int k), (1, .int a), (2, .int b)] := hl
  refine lv_iload_n x.1 x.2.1 dd_sg_needWithin_0 rfl (lv_at hl 0 rfl) ?_
  refine lv_iload_n x.1 x.2.1 dd_sg_needWithin_1 rfl (lv_at hl 1 rfl) ?_
  refine lv_icmp_lt (tgt := 10) x.1 x.2.1 dd_sg_needWithin_2 (by decide) (fun c106 => ?_) (fun c106 => ?_)
  · exact kx_throw x hG hB hl.1 hfl hlk hex (cls := mp_iae) (tx := "a number is not as it may be") (by decide +kernel) ww_312 ww_313 ww_64 mp_own_iae rfl (by decide +kernel) dd_sg_needWithin_10 dd_sg_needWithin_13 dd_sg_needWithin_14 dd_sg_needWithin_16 dd_sg_needWithin_19 (Nat.le_trans (Nat.le_of_ble_eq_true rfl) hfr) (Nat.le_trans (Nat.le_of_ble_eq_true rfl) hlo) (Nat.le_trans (Nat.le_of_ble_eq_true rfl) hce) (Nat.le_trans (Nat.le_of_ble_eq_true rfl) hsl) (by decide) (by decide) hH hS (fun t a hT => ⟨a, rfl, hT, rfl⟩)
  · refine lv_iload_n x.1 x.2.1 dd_sg_needWithin_5 rfl (lv_at hl 0 rfl) ?_
    refine lv_iload_n x.1 x.2.1 dd_sg_needWithin_6 rfl (lv_at hl 2 rfl) ?_
    refine lv_icmp_le (tgt := 20) x.1 x.2.1 dd_sg_needWithin_7 (by decide) (fun c107 => ?_) (fun c107 => ?_)
    · exact absurd hQ (fun z => z.elim c106 (Int32.not_lt.mpr c107))
    · exact kx_throw x hG hB hl.1 hfl hlk hex (cls := mp_iae) (tx := "a number is not as it may be") (by decide +kernel) ww_312 ww_313 ww_64 mp_own_iae rfl (by decide +kernel) dd_sg_needWithin_10 dd_sg_needWithin_13 dd_sg_needWithin_14 dd_sg_needWithin_16 dd_sg_needWithin_19 (Nat.le_trans (Nat.le_of_ble_eq_true rfl) hfr) (Nat.le_trans (Nat.le_of_ble_eq_true rfl) hlo) (Nat.le_trans (Nat.le_of_ble_eq_true rfl) hce) (Nat.le_trans (Nat.le_of_ble_eq_true rfl) hsl) (by decide) (by decide) hH hS (fun t a hT => ⟨a, rfl, hT, rfl⟩)
set_option maxRecDepth 100000 in
set_option maxHeartbeats 4000000 in
theorem kk_G_shop_ok {l : Launch} {D : va_G} {ar : Nat → ClassId} {base : Nat} {σ : mp_M} {k : Int32} (hfl : l.flags = flags0) (hQ : ¬ (k < 0 ∨ nI 25 ≤ k)) : CN l D ar base yy_sg_needShop prog_1_method_19_code 1 (Option.none : Option Jvm.ClassFile.FieldType) [] 6 82 1 6 [.int k] σ (fun o σ' _ => o = .returned none ∧ σ' = σ) := by
  refine mp_in (Nat.le_of_ble_eq_true rfl) ?_
  intro p e R s m below meth c x hfr hlo hce hsl hr hlk hin hex hG hB ls H hH0 hH hS hl
  have hl : lv_has ls 1 [(0, .int k)] := hl
  refine lv_iload_n x.1 x.2.1 dd_sg_needShop_0 rfl (lv_at hl 0 rfl) ?_
  refine lv_if_lt (tgt := 10) x.1 x.2.1 dd_sg_needShop_1 (by decide) (fun c108 => ?_) (fun c108 => ?_)
  · exact kx_throw x hG hB hl.1 hfl hlk hex (cls := mp_iae) (tx := "there is no such shop") (by decide +kernel) ww_312 ww_313 ww_64 mp_own_iae rfl (by decide +kernel) dd_sg_needShop_10 dd_sg_needShop_13 dd_sg_needShop_14 dd_sg_needShop_16 dd_sg_needShop_19 (Nat.le_trans (Nat.le_of_ble_eq_true rfl) hfr) (Nat.le_trans (Nat.le_of_ble_eq_true rfl) hlo) (Nat.le_trans (Nat.le_of_ble_eq_true rfl) hce) (Nat.le_trans (Nat.le_of_ble_eq_true rfl) hsl) (by decide) (by decide) hH hS (fun t a hT => absurd (Or.inl c108) hQ)
  · refine lv_iload_n x.1 x.2.1 dd_sg_needShop_4 rfl (lv_at hl 0 rfl) ?_
    refine lv_bipush (v := nI 25) x.1 x.2.1 dd_sg_needShop_5 (by decide +kernel) ?_
    refine lv_icmp_lt (tgt := 20) x.1 x.2.1 dd_sg_needShop_7 (by decide) (fun c109 => ?_) (fun c109 => ?_)
    · exact mp_rv x hr hlk (by decide) (by decide) hH hS (fun _ => ⟨rfl, rfl⟩) dd_sg_needShop_20
    · exact kx_throw x hG hB hl.1 hfl hlk hex (cls := mp_iae) (tx := "there is no such shop") (by decide +kernel) ww_312 ww_313 ww_64 mp_own_iae rfl (by decide +kernel) dd_sg_needShop_10 dd_sg_needShop_13 dd_sg_needShop_14 dd_sg_needShop_16 dd_sg_needShop_19 (Nat.le_trans (Nat.le_of_ble_eq_true rfl) hfr) (Nat.le_trans (Nat.le_of_ble_eq_true rfl) hlo) (Nat.le_trans (Nat.le_of_ble_eq_true rfl) hce) (Nat.le_trans (Nat.le_of_ble_eq_true rfl) hsl) (by decide) (by decide) hH hS (fun t a hT => absurd (Or.inr (Int32.not_lt.mp c109)) hQ)
set_option maxRecDepth 100000 in
set_option maxHeartbeats 4000000 in
theorem kk_G_shop_no {l : Launch} {D : va_G} {ar : Nat → ClassId} {base : Nat} {σ : mp_M} {k : Int32} (hfl : l.flags = flags0) (hQ : k < 0 ∨ nI 25 ≤ k) : CN l D ar base yy_sg_needShop prog_1_method_19_code 1 (Option.none : Option Jvm.ClassFile.FieldType) [] 6 82 1 6 [.int k] σ (fun o σ' t => ∃ a, o = .threw a ∧ mp_T mp_iae a t ∧ σ' = σ) := by
  refine mp_in (Nat.le_of_ble_eq_true rfl) ?_
  intro p e R s m below meth c x hfr hlo hce hsl hr hlk hin hex hG hB ls H hH0 hH hS hl
  have hl : lv_has ls 1 [(0, .int k)] := hl
  refine lv_iload_n x.1 x.2.1 dd_sg_needShop_0 rfl (lv_at hl 0 rfl) ?_
  refine lv_if_lt (tgt := 10) x.1 x.2.1 dd_sg_needShop_1 (by decide) (fun c110 => ?_) (fun c110 => ?_)
  · exact kx_throw x hG hB hl.1 hfl hlk hex (cls := mp_iae) (tx := "there is no such shop") (by decide +kernel) ww_312 ww_313 ww_64 mp_own_iae rfl (by decide +kernel) dd_sg_needShop_10 dd_sg_needShop_13 dd_sg_needShop_14 dd_sg_needShop_16 dd_sg_needShop_19 (Nat.le_trans (Nat.le_of_ble_eq_true rfl) hfr) (Nat.le_trans (Nat.le_of_ble_eq_true rfl) hlo) (Nat.le_trans (Nat.le_of_ble_eq_true rfl) hce) (Nat.le_trans (Nat.le_of_ble_eq_true rfl) hsl) (by decide) (by decide) hH hS (fun t a hT => ⟨a, rfl, hT, rfl⟩)
  · refine lv_iload_n x.1 x.2.1 dd_sg_needShop_4 rfl (lv_at hl 0 rfl) ?_
    refine lv_bipush (v := nI 25) x.1 x.2.1 dd_sg_needShop_5 (by decide +kernel) ?_
    refine lv_icmp_lt (tgt := 20) x.1 x.2.1 dd_sg_needShop_7 (by decide) (fun c111 => ?_) (fun c111 => ?_)
    · exact absurd hQ (fun z => z.elim c110 (Int32.not_le.mpr c111))
    · exact kx_throw x hG hB hl.1 hfl hlk hex (cls := mp_iae) (tx := "there is no such shop") (by decide +kernel) ww_312 ww_313 ww_64 mp_own_iae rfl (by decide +kernel) dd_sg_needShop_10 dd_sg_needShop_13 dd_sg_needShop_14 dd_sg_needShop_16 dd_sg_needShop_19 (Nat.le_trans (Nat.le_of_ble_eq_true rfl) hfr) (Nat.le_trans (Nat.le_of_ble_eq_true rfl) hlo) (Nat.le_trans (Nat.le_of_ble_eq_true rfl) hce) (Nat.le_trans (Nat.le_of_ble_eq_true rfl) hsl) (by decide) (by decide) hH hS (fun t a hT => ⟨a, rfl, hT, rfl⟩)
set_option maxRecDepth 100000 in
set_option maxHeartbeats 4000000 in
theorem kk_G_pres_ok {l : Launch} {D : va_G} {ar : Nat → ClassId} {base : Nat} {σ : mp_M} {k : Int32} (hfl : l.flags = flags0) (hQ : ¬ (k < 0 ∨ nI 20 ≤ k)) : CN l D ar base yy_sg_needPrescription prog_1_method_20_code 1 (Option.none : Option Jvm.ClassFile.FieldType) [] 6 82 1 6 [.int k] σ (fun o σ' _ => o = .returned none ∧ σ' = σ) := by
  refine mp_in (Nat.le_of_ble_eq_true rfl) ?_
  intro p e R s m below meth c x hfr hlo hce hsl hr hlk hin hex hG hB ls H hH0 hH hS hl
  have hl : lv_has ls 1 [(0, .int k)] := hl
  refine lv_iload_n x.1 x.2.1 dd_sg_needPrescription_0 rfl (lv_at hl 0 rfl) ?_
  refine lv_if_lt (tgt := 10) x.1 x.2.1 dd_sg_needPrescription_1 (by decide) (fun c112 => ?_) (fun c112 => ?_)
  · exact kx_throw x hG hB hl.1 hfl hlk hex (cls := mp_iae) (tx := "there is no such prescription") (by decide +kernel) ww_312 ww_313 ww_64 mp_own_iae rfl (by decide +kernel) dd_sg_needPrescription_10 dd_sg_needPrescription_13 dd_sg_needPrescription_14 dd_sg_needPrescription_16 dd_sg_needPrescription_19 (Nat.le_trans (Nat.le_of_ble_eq_true rfl) hfr) (Nat.le_trans (Nat.le_of_ble_eq_true rfl) hlo) (Nat.le_trans (Nat.le_of_ble_eq_true rfl) hce) (Nat.le_trans (Nat.le_of_ble_eq_true rfl) hsl) (by decide) (by decide) hH hS (fun t a hT => absurd (Or.inl c112) hQ)
  · refine lv_iload_n x.1 x.2.1 dd_sg_needPrescription_4 rfl (lv_at hl 0 rfl) ?_
    refine lv_bipush (v := nI 20) x.1 x.2.1 dd_sg_needPrescription_5 (by decide +kernel) ?_
    refine lv_icmp_lt (tgt := 20) x.1 x.2.1 dd_sg_needPrescription_7 (by decide) (fun c113 => ?_) (fun c113 => ?_)
    · exact mp_rv x hr hlk (by decide) (by decide) hH hS (fun _ => ⟨rfl, rfl⟩) dd_sg_needPrescription_20
    · exact kx_throw x hG hB hl.1 hfl hlk hex (cls := mp_iae) (tx := "there is no such prescription") (by decide +kernel) ww_312 ww_313 ww_64 mp_own_iae rfl (by decide +kernel) dd_sg_needPrescription_10 dd_sg_needPrescription_13 dd_sg_needPrescription_14 dd_sg_needPrescription_16 dd_sg_needPrescription_19 (Nat.le_trans (Nat.le_of_ble_eq_true rfl) hfr) (Nat.le_trans (Nat.le_of_ble_eq_true rfl) hlo) (Nat.le_trans (Nat.le_of_ble_eq_true rfl) hce) (Nat.le_trans (Nat.le_of_ble_eq_true rfl) hsl) (by decide) (by decide) hH hS (fun t a hT => absurd (Or.inr (Int32.not_lt.mp c113)) hQ)
set_option maxRecDepth 100000 in
set_option maxHeartbeats 4000000 in
theorem kk_G_pres_no {l : Launch} {D : va_G} {ar : Nat → ClassId} {base : Nat} {σ : mp_M} {k : Int32} (hfl : l.flags = flags0) (hQ : k < 0 ∨ nI 20 ≤ k) : CN l D ar base yy_sg_needPrescription prog_1_method_20_code 1 (Option.none : Option Jvm.ClassFile.FieldType) [] 6 82 1 6 [.int k] σ (fun o σ' t => ∃ a, o = .threw a ∧ mp_T mp_iae a t ∧ σ' = σ) := by
  refine mp_in (Nat.le_of_ble_eq_true rfl) ?_
  intro p e R s m below meth c x hfr hlo hce hsl hr hlk hin hex hG hB ls H hH0 hH hS hl
  have hl : lv_has ls 1 [(0, .int k)] := hl
  refine lv_iload_n x.1 x.2.1 dd_sg_needPrescription_0 rfl (lv_at hl 0 rfl) ?_
  refine lv_if_lt (tgt := 10) x.1 x.2.1 dd_sg_needPrescription_1 (by decide) (fun c114 => ?_) (fun c114 => ?_)
  · exact kx_throw x hG hB hl.1 hfl hlk hex (cls := mp_iae) (tx := "there is no such prescription") (by decide +kernel) ww_312 ww_313 ww_64 mp_own_iae rfl (by decide +kernel) dd_sg_needPrescription_10 dd_sg_needPrescription_13 dd_sg_needPrescription_14 dd_sg_needPrescription_16 dd_sg_needPrescription_19 (Nat.le_trans (Nat.le_of_ble_eq_true rfl) hfr) (Nat.le_trans (Nat.le_of_ble_eq_true rfl) hlo) (Nat.le_trans (Nat.le_of_ble_eq_true rfl) hce) (Nat.le_trans (Nat.le_of_ble_eq_true rfl) hsl) (by decide) (by decide) hH hS (fun t a hT => ⟨a, rfl, hT, rfl⟩)
  · refine lv_iload_n x.1 x.2.1 dd_sg_needPrescription_4 rfl (lv_at hl 0 rfl) ?_
    refine lv_bipush (v := nI 20) x.1 x.2.1 dd_sg_needPrescription_5 (by decide +kernel) ?_
    refine lv_icmp_lt (tgt := 20) x.1 x.2.1 dd_sg_needPrescription_7 (by decide) (fun c115 => ?_) (fun c115 => ?_)
    · exact absurd hQ (fun z => z.elim c114 (Int32.not_le.mpr c115))
    · exact kx_throw x hG hB hl.1 hfl hlk hex (cls := mp_iae) (tx := "there is no such prescription") (by decide +kernel) ww_312 ww_313 ww_64 mp_own_iae rfl (by decide +kernel) dd_sg_needPrescription_10 dd_sg_needPrescription_13 dd_sg_needPrescription_14 dd_sg_needPrescription_16 dd_sg_needPrescription_19 (Nat.le_trans (Nat.le_of_ble_eq_true rfl) hfr) (Nat.le_trans (Nat.le_of_ble_eq_true rfl) hlo) (Nat.le_trans (Nat.le_of_ble_eq_true rfl) hce) (Nat.le_trans (Nat.le_of_ble_eq_true rfl) hsl) (by decide) (by decide) hH hS (fun t a hT => ⟨a, rfl, hT, rfl⟩)
set_option maxRecDepth 100000 in
set_option maxHeartbeats 4000000 in
theorem kk_G_letter_ok {l : Launch} {D : va_G} {ar : Nat → ClassId} {base : Nat} {σ : mp_M} {ad : Nat → Nat → Nat} {rg : Nat → Bool} {pl : Nat → Nat} {V M : fV} {k : Int32} {n : Nat} (hL : Lay ar ad rg pl V M σ) (hn : V 55 0 = nI n) (hfl : l.flags = flags0) (hQ : ¬ (k < 0 ∨ nI n ≤ k)) : CN l D ar base yy_sg_needLetter prog_1_method_21_code 2 (Option.none : Option Jvm.ClassFile.FieldType) [] 6 82 1 6 [.ref (ad 0 0), .int k] σ (fun o σ' _ => o = .returned none ∧ σ' = σ) := by
  refine mp_in (Nat.le_of_ble_eq_true rfl) ?_
  intro p e R s m below meth c x hfr hlo hce hsl hr hlk hin hex hG hB ls H hH0 hH hS hl
  have hl : lv_has ls 2 [(0, .ref (ad 0 0)), (1, .int k)] := hl
  refine lv_iload_n x.1 x.2.1 dd_sg_needLetter_0 rfl (lv_at hl 1 rfl) ?_
  refine lv_if_lt (tgt := 15) x.1 x.2.1 dd_sg_needLetter_1 (by decide) (fun c116 => ?_) (fun c116 => ?_)
  · exact kx_throw x hG hB hl.1 hfl hlk hex (cls := mp_iae) (tx := "there is no such letter") (by decide +kernel) ww_312 ww_313 ww_64 mp_own_iae rfl (by decide +kernel) dd_sg_needLetter_15 dd_sg_needLetter_18 dd_sg_needLetter_19 dd_sg_needLetter_21 dd_sg_needLetter_24 (Nat.le_trans (Nat.le_of_ble_eq_true rfl) hfr) (Nat.le_trans (Nat.le_of_ble_eq_true rfl) hlo) (Nat.le_trans (Nat.le_of_ble_eq_true rfl) hce) (Nat.le_trans (Nat.le_of_ble_eq_true rfl) hsl) (by decide) (by decide) hH hS (fun t a hT => absurd (Or.inl c116) hQ)
  · refine lv_iload_n x.1 x.2.1 dd_sg_needLetter_4 rfl (lv_at hl 1 rfl) ?_
    refine lv_aload_n x.1 x.2.1 dd_sg_needLetter_5 rfl (lv_at hl 0 rfl) ?_
    refine mp_get x hH (la0 hL) fg_sg_27 rfl dd_sg_needLetter_6 ?_
    refine mp_get x hH (la2 hL) fg_sg_123 rfl dd_sg_needLetter_9 ?_
    refine mn_top (w := nI n) (hn) ?_
    refine lv_icmp_lt (tgt := 25) x.1 x.2.1 dd_sg_needLetter_12 (by decide) (fun c117 => ?_) (fun c117 => ?_)
    · exact mp_rv x hr hlk (by decide) (by decide) hH hS (fun _ => ⟨rfl, rfl⟩) dd_sg_needLetter_25
    · exact kx_throw x hG hB hl.1 hfl hlk hex (cls := mp_iae) (tx := "there is no such letter") (by decide +kernel) ww_312 ww_313 ww_64 mp_own_iae rfl (by decide +kernel) dd_sg_needLetter_15 dd_sg_needLetter_18 dd_sg_needLetter_19 dd_sg_needLetter_21 dd_sg_needLetter_24 (Nat.le_trans (Nat.le_of_ble_eq_true rfl) hfr) (Nat.le_trans (Nat.le_of_ble_eq_true rfl) hlo) (Nat.le_trans (Nat.le_of_ble_eq_true rfl) hce) (Nat.le_trans (Nat.le_of_ble_eq_true rfl) hsl) (by decide) (by decide) hH hS (fun t a hT => absurd (Or.inr (Int32.not_lt.mp c117)) hQ)
set_option maxRecDepth 100000 in
set_option maxHeartbeats 4000000 in
theorem kk_G_letter_no {l : Launch} {D : va_G} {ar : Nat → ClassId} {base : Nat} {σ : mp_M} {ad : Nat → Nat → Nat} {rg : Nat → Bool} {pl : Nat → Nat} {V M : fV} {k : Int32} {n : Nat} (hL : Lay ar ad rg pl V M σ) (hn : V 55 0 = nI n) (hfl : l.flags = flags0) (hQ : k < 0 ∨ nI n ≤ k) : CN l D ar base yy_sg_needLetter prog_1_method_21_code 2 (Option.none : Option Jvm.ClassFile.FieldType) [] 6 82 1 6 [.ref (ad 0 0), .int k] σ (fun o σ' t => ∃ a, o = .threw a ∧ mp_T mp_iae a t ∧ σ' = σ) := by
  refine mp_in (Nat.le_of_ble_eq_true rfl) ?_
  intro p e R s m below meth c x hfr hlo hce hsl hr hlk hin hex hG hB ls H hH0 hH hS hl
  have hl : lv_has ls 2 [(0, .ref (ad 0 0)), (1, .int k)] := hl
  refine lv_iload_n x.1 x.2.1 dd_sg_needLetter_0 rfl (lv_at hl 1 rfl) ?_
  refine lv_if_lt (tgt := 15) x.1 x.2.1 dd_sg_needLetter_1 (by decide) (fun c118 => ?_) (fun c118 => ?_)
  · exact kx_throw x hG hB hl.1 hfl hlk hex (cls := mp_iae) (tx := "there is no such letter") (by decide +kernel) ww_312 ww_313 ww_64 mp_own_iae rfl (by decide +kernel) dd_sg_needLetter_15 dd_sg_needLetter_18 dd_sg_needLetter_19 dd_sg_needLetter_21 dd_sg_needLetter_24 (Nat.le_trans (Nat.le_of_ble_eq_true rfl) hfr) (Nat.le_trans (Nat.le_of_ble_eq_true rfl) hlo) (Nat.le_trans (Nat.le_of_ble_eq_true rfl) hce) (Nat.le_trans (Nat.le_of_ble_eq_true rfl) hsl) (by decide) (by decide) hH hS (fun t a hT => ⟨a, rfl, hT, rfl⟩)
  · refine lv_iload_n x.1 x.2.1 dd_sg_needLetter_4 rfl (lv_at hl 1 rfl) ?_
    refine lv_aload_n x.1 x.2.1 dd_sg_needLetter_5 rfl (lv_at hl 0 rfl) ?_
    refine mp_get x hH (la0 hL) fg_sg_27 rfl dd_sg_needLetter_6 ?_
    refine mp_get x hH (la2 hL) fg_sg_123 rfl dd_sg_needLetter_9 ?_
    refine mn_top (w := nI n) (hn) ?_
    refine lv_icmp_lt (tgt := 25) x.1 x.2.1 dd_sg_needLetter_12 (by decide) (fun c119 => ?_) (fun c119 => ?_)
    · exact absurd hQ (fun z => z.elim c118 (Int32.not_le.mpr c119))
    · exact kx_throw x hG hB hl.1 hfl hlk hex (cls := mp_iae) (tx := "there is no such letter") (by decide +kernel) ww_312 ww_313 ww_64 mp_own_iae rfl (by decide +kernel) dd_sg_needLetter_15 dd_sg_needLetter_18 dd_sg_needLetter_19 dd_sg_needLetter_21 dd_sg_needLetter_24 (Nat.le_trans (Nat.le_of_ble_eq_true rfl) hfr) (Nat.le_trans (Nat.le_of_ble_eq_true rfl) hlo) (Nat.le_trans (Nat.le_of_ble_eq_true rfl) hce) (Nat.le_trans (Nat.le_of_ble_eq_true rfl) hsl) (by decide) (by decide) hH hS (fun t a hT => ⟨a, rfl, hT, rfl⟩)
set_option maxRecDepth 100000 in
set_option maxHeartbeats 4000000 in
theorem kk_G_isUp {l : Launch} {D : va_G} {ar : Nat → ClassId} {base : Nat} {σ : mp_M} {ad : Nat → Nat → Nat} {rg : Nat → Bool} {pl : Nat → Nat} {V M : fV} {k : Int32} (hL : Lay ar ad rg pl V M σ)  : CN l D ar base yy_sg_isUp prog_1_method_23_code 2 (Option.some Jvm.ClassFile.FieldType.boolean) [] 0 0 0 0 [.ref (ad 0 0), .int k] σ (fun o σ' _ => o = .returned (some (.int (if upb V k = true then nI 1 else nI 0))) ∧ σ' = σ) := by
  refine mp_in (Nat.le_of_ble_eq_true rfl) ?_
  intro p e R s m below meth c x hfr hlo hce hsl hr hlk hin hex hG hB ls H hH0 hH hS hl
  have hl : lv_has ls 2 [(0, .ref (ad 0 0)), (1, .int k)] := hl
  refine lv_aload_n x.1 x.2.1 dd_sg_isUp_0 rfl (lv_at hl 0 rfl) ?_
  refine mp_get x hH (la0 hL) fg_sg_32 rfl dd_sg_isUp_1 ?_
  refine lv_iload_n x.1 x.2.1 dd_sg_isUp_4 rfl (lv_at hl 1 rfl) ?_
  refine lv_ishr x.1 x.2.1 dd_sg_isUp_5 ?_
  refine lv_iconst (v := nI 1) x.1 x.2.1 dd_sg_isUp_6 (by decide +kernel) ?_
  refine lv_iand x.1 x.2.1 dd_sg_isUp_7 ?_
  refine lv_iconst (v := nI 1) x.1 x.2.1 dd_sg_isUp_8 (by decide +kernel) ?_
  refine lv_icmp_ne (tgt := 16) x.1 x.2.1 dd_sg_isUp_9 (by decide) (fun c120 => ?_) (fun c120 => ?_)
  · refine lv_iconst (v := nI 0) x.1 x.2.1 dd_sg_isUp_16 (by decide +kernel) ?_
    exact mp_rz x hr (by decide) hlk (by decide) (by decide) hH hS (fun _ => ⟨(congrArg (fun z => Outcome.returned (some (.int z))) (by simp [upb, c120])), rfl⟩) dd_sg_isUp_17
  · refine lv_iconst (v := nI 1) x.1 x.2.1 dd_sg_isUp_12 (by decide +kernel) ?_
    refine lv_goto (tgt := 17) x.1 x.2.1 dd_sg_isUp_13 (by decide) ?_
    exact mp_rz x hr (by decide) hlk (by decide) (by decide) hH hS (fun _ => ⟨(congrArg (fun z => Outcome.returned (some (.int z))) (by simp [upb, c120])), rfl⟩) dd_sg_isUp_17
set_option maxRecDepth 100000 in
set_option maxHeartbeats 4000000 in
theorem kk_G_up_ok {l : Launch} {D : va_G} {ar : Nat → ClassId} {base : Nat} {σ : mp_M} {ad : Nat → Nat → Nat} {rg : Nat → Bool} {pl : Nat → Nat} {V M : fV} {k : Int32} (hL : Lay ar ad rg pl V M σ) (hfl : l.flags = flags0) (hQ : upb V k = true) : CN l D ar base yy_sg_needUp prog_1_method_22_code 2 (Option.none : Option Jvm.ClassFile.FieldType) [] 1 13 1 6 [.ref (ad 0 0), .int k] σ (fun o σ' _ => o = .returned none ∧ σ' = σ) := by
  refine mp_in (Nat.le_of_ble_eq_true rfl) ?_
  intro p e R s m below meth c x hfr hlo hce hsl hr hlk hin hex hG hB ls H hH0 hH hS hl
  have hl : lv_has ls 2 [(0, .ref (ad 0 0)), (1, .int k)] := hl
  refine lv_aload_n x.1 x.2.1 dd_sg_needUp_0 rfl (lv_at hl 0 rfl) ?_
  refine lv_iload_n x.1 x.2.1 dd_sg_needUp_1 rfl (lv_at hl 1 rfl) ?_
  refine mp_call x (wt_mv base) hG hB hl.1 (mp_invV (av := [.int k]) x hH (la0 hL) rfl rfl mn_sg_isUp mc_sg_isUp (Or.inl ww_435) ww_437 ww_4 rfl dd_sg_needUp_2) (kk_G_isUp hL) (Nat.le_trans (Nat.le_of_ble_eq_true rfl) hfr) (Nat.le_trans (Nat.le_of_ble_eq_true rfl) hlo) (Nat.le_trans (Nat.le_of_ble_eq_true rfl) hce) (Nat.le_trans (Nat.le_of_ble_eq_true rfl) hsl) hH hS (fun v σa t0 H locs hp121 ht0 hvm hzz hH hS => ?_) (fun _ _ _ _ _ hz _ _ _ _ _ => by cases hz.1)
  obtain ⟨ho, hσ⟩ := hp121
  cases ho
  rw [hσ] at hH
  refine W.eq (g2 := F0 m 5 ls [.int (if upb V k = true then nI 1 else nI 0)]) rfl ?_
  refine lv_if_ne (tgt := 18) x.1 x.2.1 dd_sg_needUp_5 (by decide) (fun c122 => ?_) (fun c122 => absurd c122 (by rw [if_pos hQ]; decide +kernel))
  exact mp_rv x hr hlk (by decide) (by decide) hH hS (fun _ => ⟨rfl, rfl⟩) dd_sg_needUp_18
set_option maxRecDepth 100000 in
set_option maxHeartbeats 4000000 in
theorem kk_G_up_no {l : Launch} {D : va_G} {ar : Nat → ClassId} {base : Nat} {σ : mp_M} {ad : Nat → Nat → Nat} {rg : Nat → Bool} {pl : Nat → Nat} {V M : fV} {k : Int32} (hL : Lay ar ad rg pl V M σ) (hfl : l.flags = flags0) (hQ : upb V k = false) : CN l D ar base yy_sg_needUp prog_1_method_22_code 2 (Option.none : Option Jvm.ClassFile.FieldType) [] 6 82 1 6 [.ref (ad 0 0), .int k] σ (fun o σ' t => ∃ a, o = .threw a ∧ mp_T mp_ise a t ∧ σ' = σ) := by
  refine mp_in (Nat.le_of_ble_eq_true rfl) ?_
  intro p e R s m below meth c x hfr hlo hce hsl hr hlk hin hex hG hB ls H hH0 hH hS hl
  have hl : lv_has ls 2 [(0, .ref (ad 0 0)), (1, .int k)] := hl
  refine lv_aload_n x.1 x.2.1 dd_sg_needUp_0 rfl (lv_at hl 0 rfl) ?_
  refine lv_iload_n x.1 x.2.1 dd_sg_needUp_1 rfl (lv_at hl 1 rfl) ?_
  refine mp_call x (wt_mv base) hG hB hl.1 (mp_invV (av := [.int k]) x hH (la0 hL) rfl rfl mn_sg_isUp mc_sg_isUp (Or.inl ww_435) ww_437 ww_4 rfl dd_sg_needUp_2) (kk_G_isUp hL) (Nat.le_trans (Nat.le_of_ble_eq_true rfl) hfr) (Nat.le_trans (Nat.le_of_ble_eq_true rfl) hlo) (Nat.le_trans (Nat.le_of_ble_eq_true rfl) hce) (Nat.le_trans (Nat.le_of_ble_eq_true rfl) hsl) hH hS (fun v σa t0 H locs hp123 ht0 hvm hzz hH hS => ?_) (fun _ _ _ _ _ hz _ _ _ _ _ => by cases hz.1)
  obtain ⟨ho, hσ⟩ := hp123
  cases ho
  rw [hσ] at hH
  refine W.eq (g2 := F0 m 5 ls [.int (if upb V k = true then nI 1 else nI 0)]) rfl ?_
  refine lv_if_ne (tgt := 18) x.1 x.2.1 dd_sg_needUp_5 (by decide) (fun c124 => absurd (if_neg (by rw [hQ]; decide)) c124) (fun c124 => ?_)
  exact kx_throw x hG hB hl.1 hfl hlk hex (cls := mp_ise) (tx := "the shop is down") (by decide +kernel) ww_383 ww_384 ww_65 mp_own_ise rfl (by decide +kernel) dd_sg_needUp_8 dd_sg_needUp_11 dd_sg_needUp_12 dd_sg_needUp_14 dd_sg_needUp_17 (Nat.le_trans (Nat.le_of_ble_eq_true rfl) hfr) (Nat.le_trans (Nat.le_of_ble_eq_true rfl) hlo) (Nat.le_trans (Nat.le_of_ble_eq_true rfl) hce) (Nat.le_trans (Nat.le_of_ble_eq_true rfl) hsl) (by decide) (by decide) hH hS (fun t a hT => ⟨a, rfl, hT, rfl⟩)
set_option maxRecDepth 100000 in
set_option maxHeartbeats 4000000 in
theorem kk_G_deskOf {l : Launch} {D : va_G} {ar : Nat → ClassId} {base : Nat} {σ : mp_M} {ad : Nat → Nat → Nat} {rg : Nat → Bool} {pl : Nat → Nat} {V M : fV} {a0 b0 d : Nat} (hL : Lay ar ad rg pl V M σ) (ha : a0 < 25) (hb : b0 < 20) (hdx : dx rg a0 b0 = d) : CN l D ar base yy_sg_deskOf prog_1_method_24_code 4 (Option.some (Jvm.ClassFile.FieldType.object "SupplyGrid$Desk")) [] 0 0 0 0 [.ref (ad 0 0), .int (nI a0), .int (nI b0)] σ (fun o σ' _ => o = .returned (some (.ref (ad 9 d))) ∧ σ' = σ) := by
  refine mp_in (Nat.le_of_ble_eq_true rfl) ?_
  intro p e R s m below meth c x hfr hlo hce hsl hr hlk hin hex hG hB ls H hH0 hH hS hl
  have hl : lv_has ls 4 [(0, .ref (ad 0 0)), (1, .int (nI a0)), (2, .int (nI b0))] := hl
  refine lv_aload_n x.1 x.2.1 dd_sg_deskOf_0 rfl (lv_at hl 0 rfl) ?_
  refine mp_get x hH (la0 hL) fg_sg_11 rfl dd_sg_deskOf_1 ?_
  refine lv_iload_n x.1 x.2.1 dd_sg_deskOf_4 rfl (lv_at hl 2 rfl) ?_
  cases hg : rg b0 with
  | false =>
    skip
    refine kps_ldN x hH hL (j := b0) (by omega) hg dd_sg_deskOf_5 ?_
    refine lv_astore_nN (lv' := [(3, .null), (0, .ref (ad 0 0)), (1, .int (nI a0)), (2, .int (nI b0))]) x.1 x.2.1 dd_sg_deskOf_6 rfl hl (by decide) rfl (fun ls hl => ?_)
    refine lv_aload_nN x.1 x.2.1 dd_sg_deskOf_7 rfl (lv_at hl 0 rfl) ?_
    refine lv_ifnonnullN x.1 x.2.1 dd_sg_deskOf_8 ?_
    refine lv_aload_n x.1 x.2.1 dd_sg_deskOf_11 rfl (lv_at hl 1 rfl) ?_
    refine mp_get x hH (la0 hL) fg_sg_20 rfl dd_sg_deskOf_12 ?_
    refine lv_goto (tgt := 24) x.1 x.2.1 dd_sg_deskOf_15 (by decide) ?_
    exact mp_rr x hr hlk (by decide) (by decide) hH hS (fun _ => ⟨(by rw [← hdx, dx, if_neg (by rw [hg]; decide)]), rfl⟩) dd_sg_deskOf_24
  | true =>
    skip
    refine kps_ld x hH hL (j := b0) (by omega) hg dd_sg_deskOf_5 ?_
    refine lv_astore_n (lv' := [(3, .ref (ad 7 b0)), (0, .ref (ad 0 0)), (1, .int (nI a0)), (2, .int (nI b0))]) x.1 x.2.1 dd_sg_deskOf_6 rfl hl (by decide) rfl (fun ls hl => ?_)
    refine lv_aload_n x.1 x.2.1 dd_sg_deskOf_7 rfl (lv_at hl 0 rfl) ?_
    refine lv_ifnonnull (tgt := 18) x.1 x.2.1 dd_sg_deskOf_8 (by decide) ?_
    refine lv_aload_n x.1 x.2.1 dd_sg_deskOf_18 rfl (lv_at hl 0 rfl) ?_
    refine mp_get x hH (la7 hL ⟨by omega, hg⟩) fg_sg_62 rfl dd_sg_deskOf_19 ?_
    refine lv_iload_n x.1 x.2.1 dd_sg_deskOf_22 rfl (lv_at hl 2 rfl) ?_
    refine kds_ld x hH hL (j := a0) ⟨by omega, hg⟩ (by omega) dd_sg_deskOf_23 ?_
    exact mp_rr x hr hlk (by decide) (by decide) hH hS (fun _ => ⟨(by rw [← hdx, dx, if_pos hg]), rfl⟩) dd_sg_deskOf_24
def sea (V : fV) (rg : Nat → Bool) (a0 : Nat) : Nat → fV
  | 0 => V
  | i + 1 => if rg i = true then sen (sea V rg a0 i) (20 * a0 + i) else sea V rg a0 i
theorem dk_of {rg : Nat → Bool} {a0 b0 : Nat} (ha : a0 < 25) (hb : b0 < 20) (h : rg b0 = true) : dk rg (20 * a0 + b0) := by
  refine Or.inr ⟨by omega, ?_⟩
  have : (20 * a0 + b0) % 20 = b0 := by omega
  rw [this]; exact h
set_option maxRecDepth 100000 in
set_option maxHeartbeats 4000000 in
theorem kk_G_endAskings {l : Launch} {D : va_G} {ar : Nat → ClassId} {base : Nat} {σ : mp_M} {ad : Nat → Nat → Nat} {rg : Nat → Bool} {pl : Nat → Nat} {V M : fV} {a0 : Nat} (hL : Lay ar ad rg pl V M σ) (ha : a0 < 25) : CN l D ar base yy_sg_endAskings prog_1_method_25_code 4 (Option.none : Option Jvm.ClassFile.FieldType) [] 2 24 0 0 [.ref (ad 0 0), .int (nI a0)] σ (fun o σ' _ => o = .returned none ∧ Lay ar ad rg pl (sea V rg a0 20) M σ') := by
  refine mp_in (Nat.le_of_ble_eq_true rfl) ?_
  intro p e R s m below meth c x hfr hlo hce hsl hr hlk hin hex hG hB ls H hH0 hH hS hl
  have hl : lv_has ls 4 [(0, .ref (ad 0 0)), (1, .int (nI a0))] := hl
  refine lv_iconst (v := nI 0) x.1 x.2.1 dd_sg_endAskings_0 (by decide +kernel) ?_
  refine lv_istore_n (lv' := [(2, .int (nI 0)), (0, .ref (ad 0 0)), (1, .int (nI a0))]) x.1 x.2.1 dd_sg_endAskings_1 rfl hl (by decide) rfl (fun ls hl => ?_)
  have loop125 : ∀ (n126 : Nat) (i : Nat) (σ : mp_M), i ≤ 20 → Lay ar ad rg pl (sea V rg a0 i) M σ → 20 - i < n126 → ∀ (ls : Array Slot) (H : Heap) (locs : List Loc), lv_has ls 4 [(0, .ref (ad 0 0)), (1, .int (nI a0)), (2, .int (nI i))] → HH D base σ H → va_S (mp_A base) s.heap H locs → W p l e R s m [.ref (ad 0 0), .int (nI a0)].toArray below meth c H locs 0 0 (mp_Q below s 0 0 base (mp_P D cl_L base s (fun o σ' _ => o = .returned none ∧ Lay ar ad rg pl (sea V rg a0 20) M σ'))) (F0 m 2 ls []) := by
    intro n126
    induction n126 with
    | zero => intro i σ hi hL hmz; exact absurd hmz (Nat.not_lt_zero _)
    | succ n126 ihloop125 =>
      intro i σ hi hL hmz ls H locs hl hH hS
      refine lv_iload_n x.1 x.2.1 dd_sg_endAskings_2 rfl (lv_at hl 2 rfl) ?_
      refine lv_bipush (v := nI 20) x.1 x.2.1 dd_sg_endAskings_3 (by decide +kernel) ?_
      refine lv_icmp_ge (tgt := 37) x.1 x.2.1 dd_sg_endAskings_5 (by decide) (fun c127 => ?_) (fun c127 => ?_)
      · have c127 : 20 ≤ i := (cv_le (a := 20) (b := i) (by omega) (by omega)).mp c127
        obtain rfl : i = 20 := by omega
        exact mp_rv x hr hlk (by decide) (by decide) hH hS (fun _ => ⟨rfl, hL⟩) dd_sg_endAskings_37
      · have c127 : ¬ (20 ≤ i) := fun h => c127 ((cv_le (a := 20) (b := i) (by omega) (by omega)).mpr h)
        refine lv_aload_n x.1 x.2.1 dd_sg_endAskings_8 rfl (lv_at hl 0 rfl) ?_
        refine mp_get x hH (la0 hL) fg_sg_11 rfl dd_sg_endAskings_9 ?_
        refine lv_iload_n x.1 x.2.1 dd_sg_endAskings_12 rfl (lv_at hl 2 rfl) ?_
        cases hg : rg i with
        | false =>
          skip
          refine kps_ldN x hH hL (j := i) (by omega) hg dd_sg_endAskings_13 ?_
          refine lv_astore_nN (lv' := [(3, .null), (0, .ref (ad 0 0)), (1, .int (nI a0)), (2, .int (nI i))]) x.1 x.2.1 dd_sg_endAskings_14 rfl hl (by decide) rfl (fun ls hl => ?_)
          refine lv_aload_nN x.1 x.2.1 dd_sg_endAskings_15 rfl (lv_at hl 0 rfl) ?_
          refine lv_ifnullN (tgt := 31) x.1 x.2.1 dd_sg_endAskings_16 (by decide) ?_
          refine lv_iinc (v := nI (i + 1)) (lv' := [(2, .int (nI (i + 1))), (3, .null), (0, .ref (ad 0 0)), (1, .int (nI a0))]) x.1 x.2.1 dd_sg_endAskings_31 hl (k := 3) rfl (mn_inc _) (by decide) rfl (fun ls hl => ?_)
          refine lv_goto (tgt := 2) x.1 x.2.1 dd_sg_endAskings_34 (by decide) ?_
          exact ihloop125 (i + 1) _ (by omega) (by unfold sea; rw [if_neg (by rw [hg]; decide)]; exact hL) (by omega) ls H _ (lv_sub hl [2, 3, 0] rfl) hH hS
        | true =>
          skip
          refine kps_ld x hH hL (j := i) (by omega) hg dd_sg_endAskings_13 ?_
          refine lv_astore_n (lv' := [(3, .ref (ad 7 i)), (0, .ref (ad 0 0)), (1, .int (nI a0)), (2, .int (nI i))]) x.1 x.2.1 dd_sg_endAskings_14 rfl hl (by decide) rfl (fun ls hl => ?_)
          refine lv_aload_n x.1 x.2.1 dd_sg_endAskings_15 rfl (lv_at hl 0 rfl) ?_
          refine lv_ifnull x.1 x.2.1 dd_sg_endAskings_16 ?_
          refine lv_aload_n x.1 x.2.1 dd_sg_endAskings_19 rfl (lv_at hl 0 rfl) ?_
          refine mp_get x hH (la7 hL ⟨by omega, hg⟩) fg_sg_62 rfl dd_sg_endAskings_20 ?_
          refine lv_iload_n x.1 x.2.1 dd_sg_endAskings_23 rfl (lv_at hl 2 rfl) ?_
          refine kds_ld x hH hL (j := a0) ⟨by omega, hg⟩ (by omega) dd_sg_endAskings_24 ?_
          refine mp_get x hH (la9 hL (dk_of ha (by omega) hg)) fg_sg_72 rfl dd_sg_endAskings_25 ?_
          refine mp_call x (wt_mv base) hG hB hl.1 (mp_invV (av := []) x hH (la12 hL (dk_of ha (by omega) hg)) rfl rfl mn_ak_end mc_ak_end (Or.inr ⟨_, ww_481⟩) ww_111 ww_0 rfl dd_sg_endAskings_28) (kk_A_end hL (dk_of ha (by omega) hg)) (Nat.le_trans (Nat.le_of_ble_eq_true rfl) hfr) (Nat.le_trans (Nat.le_of_ble_eq_true rfl) hlo) (Nat.le_trans (Nat.le_of_ble_eq_true rfl) hce) (Nat.le_trans (Nat.le_of_ble_eq_true rfl) hsl) hH hS (fun v σa t0 H locs hp128 ht0 hvm hzz hH hS => ?_) (fun _ _ _ _ _ hz _ _ _ _ _ => by cases hz.1)
          obtain ⟨ho, hL⟩ := hp128
          cases ho
          refine W.eq (g2 := F0 m 31 ls []) rfl ?_
          refine lv_iinc (v := nI (i + 1)) (lv' := [(2, .int (nI (i + 1))), (3, .ref (ad 7 i)), (0, .ref (ad 0 0)), (1, .int (nI a0))]) x.1 x.2.1 dd_sg_endAskings_31 hl (k := 3) rfl (mn_inc _) (by decide) rfl (fun ls hl => ?_)
          refine lv_goto (tgt := 2) x.1 x.2.1 dd_sg_endAskings_34 (by decide) ?_
          exact ihloop125 (i + 1) _ (by omega) (by unfold sea; rw [if_pos hg]; exact hL) (by omega) ls H _ (lv_sub hl [2, 3, 0] rfl) hH hS
  exact loop125 _ 0 _ (by decide) hL (Nat.lt_succ_self _) ls H _ (lv_sub hl [1, 2, 0] rfl) hH hS
theorem swr_52 {V : fV} {t : Nat} {x1 x2 x3 x4 x5 : Int32} {d nc : Nat} (h : t < 102) : swr V t x1 x2 x3 x4 x5 d nc 52 t = nI nc := by
  unfold swr
  rw [bcm_o (by omega), mu_s]
theorem m1_100 (n : Nat) : m1 n ≤ 100 := by
  unfold m1
  split <;> omega
def drf (V : fV) (d nc : Nat) (kk k2 : Int32) : fV := mu (swr V 101 kk (V 63 d) (V 64 d) (V 36 d) (V 38 d) d nc) 51 101 k2
def ssa (pl : Nat → Nat) (f n nc : Nat) (V : fV) (d : Nat) (kk k2 : Int32) : fV := sal pl f n nc (drf V d nc kk k2) 25
set_option maxRecDepth 100000 in
set_option maxHeartbeats 4000000 in
theorem kk_G_sendToAll {l : Launch} {D : va_G} {ar : Nat → ClassId} {base : Nat} {σ : mp_M} {ad : Nat → Nat → Nat} {rg : Nat → Bool} {pl : Nat → Nat} {V M : fV} {f n d nc : Nat} {kk k2 : Int32} (hL : Lay ar ad rg pl V M σ) (hrw : RW pl V f n) (hd : dk rg d) (hc : V 34 d = nI nc) (hc2 : nc ≤ 12)  : CN l D ar base yy_sg_sendToAll prog_1_method_27_code 6 (Option.some Jvm.ClassFile.FieldType.int) [] 3 40 0 0 [.ref (ad 0 0), .ref (ad 9 d), .int kk, .int k2] σ (fun o σ' _ => o = .returned (some (.int (nI 25))) ∧ Lay ar ad rg pl (ssa pl f n nc V d kk k2) M σ') := by
  refine mp_in (Nat.le_of_ble_eq_true rfl) ?_
  intro p e R s m below meth c x hfr hlo hce hsl hr hlk hin hex hG hB ls H hH0 hH hS hl
  have hl : lv_has ls 6 [(0, .ref (ad 0 0)), (1, .ref (ad 9 d)), (2, .int kk), (3, .int k2)] := hl
  obtain ⟨hf, hf2, hn, hn2, hpl⟩ := id hrw
  have hd5 := dk_le hd
  refine lv_aload_n x.1 x.2.1 dd_sg_sendToAll_0 rfl (lv_at hl 1 rfl) ?_
  refine mp_get x hH (la9 hL hd) fg_sg_72 rfl dd_sg_sendToAll_1 ?_
  refine lv_astore (lv' := [(4, .ref (ad 12 d)), (0, .ref (ad 0 0)), (1, .ref (ad 9 d)), (2, .int kk), (3, .int k2)]) x.1 x.2.1 dd_sg_sendToAll_4 hl (by decide) rfl (fun ls hl => ?_)
  refine lv_aload_n x.1 x.2.1 dd_sg_sendToAll_6 rfl (lv_at hl 1 rfl) ?_
  refine mp_get x hH (la0 hL) fg_sg_27 rfl dd_sg_sendToAll_7 ?_
  refine mp_get x hH (la2 hL) fg_sg_132 rfl dd_sg_sendToAll_10 ?_
  refine lv_iload_n x.1 x.2.1 dd_sg_sendToAll_13 rfl (lv_at hl 3 rfl) ?_
  refine lv_aload_n x.1 x.2.1 dd_sg_sendToAll_14 rfl (lv_at hl 2 rfl) ?_
  refine mp_get x hH (la9 hL hd) fg_sg_216 rfl dd_sg_sendToAll_15 ?_
  refine lv_aload_n x.1 x.2.1 dd_sg_sendToAll_18 rfl (lv_at hl 2 rfl) ?_
  refine mp_get x hH (la9 hL hd) fg_sg_219 rfl dd_sg_sendToAll_19 ?_
  refine lv_aload x.1 x.2.1 dd_sg_sendToAll_22 (lv_at hl 0 rfl) ?_
  refine mp_get x hH (la12 hL hd) fg_sg_222 rfl dd_sg_sendToAll_24 ?_
  refine lv_aload x.1 x.2.1 dd_sg_sendToAll_27 (lv_at hl 0 rfl) ?_
  refine mp_get x hH (la12 hL hd) fg_sg_225 rfl dd_sg_sendToAll_29 ?_
  refine lv_aload_n x.1 x.2.1 dd_sg_sendToAll_32 rfl (lv_at hl 2 rfl) ?_
  refine mp_get x hH (la9 hL hd) fg_sg_136 rfl dd_sg_sendToAll_33 ?_
  refine mp_call x (wt_mv base) hG hB hl.1 (mp_invV (av := [.int kk, .int (V 63 d), .int (V 64 d), .int (V 36 d), .int (V 38 d), .ref (ad 10 d)]) x hH (la4 hL (by decide)) rfl rfl mn_lt_write mc_lt_write (Or.inr ⟨_, ww_490⟩) ww_492 ww_14 rfl dd_sg_sendToAll_36) (kk_L_write (nc := nc) hL (by decide) hd (hc) (by omega)) (Nat.le_trans (Nat.le_of_ble_eq_true rfl) hfr) (Nat.le_trans (Nat.le_of_ble_eq_true rfl) hlo) (Nat.le_trans (Nat.le_of_ble_eq_true rfl) hce) (Nat.le_trans (Nat.le_of_ble_eq_true rfl) hsl) hH hS (fun v σa t0 H locs hp129 ht0 hvm hzz hH hS => ?_) (fun _ _ _ _ _ hz _ _ _ _ _ => by cases hz.1)
  obtain ⟨ho, hL⟩ := hp129
  cases ho
  refine W.eq (g2 := F0 m 39 ls []) rfl ?_
  refine lv_aload_n x.1 x.2.1 dd_sg_sendToAll_39 rfl (lv_at hl 1 rfl) ?_
  refine mp_get x hH (la0 hL) fg_sg_27 rfl dd_sg_sendToAll_40 ?_
  refine mp_get x hH (la2 hL) fg_sg_132 rfl dd_sg_sendToAll_43 ?_
  refine lv_iload_n x.1 x.2.1 dd_sg_sendToAll_46 rfl (lv_at hl 4 rfl) ?_
  refine kp_51 x hH hS hL (by decide) fp_sg_228 dd_sg_sendToAll_47 (fun σ hL H locs hH hS => ?_)
  refine lv_iconst (v := nI 0) x.1 x.2.1 dd_sg_sendToAll_50 (by decide +kernel) ?_
  refine lv_istore (lv' := [(5, .int (nI 0)), (4, .ref (ad 12 d)), (0, .ref (ad 0 0)), (1, .ref (ad 9 d)), (2, .int kk), (3, .int k2)]) x.1 x.2.1 dd_sg_sendToAll_51 hl (by decide) rfl (fun ls hl => ?_)
  have hrw2 : RW pl (drf V d nc kk k2) f n := RW_o hrw ((mu_k (by decide)).trans (swr_o (by omega) (by omega))) ((mu_k (by decide)).trans (swr_o (by omega) (by omega)))
  have hc52 : drf V d nc kk k2 52 101 = nI nc := (mu_k (by decide)).trans (swr_52 (by decide))
  have loop130 : ∀ (n131 : Nat) (i : Nat) (σ : mp_M), i ≤ 25 → Lay ar ad rg pl (sal pl f n nc (drf V d nc kk k2) i) M σ → 25 - i < n131 → ∀ (ls : Array Slot) (H : Heap) (locs : List Loc), lv_has ls 6 [(0, .ref (ad 0 0)), (5, .int (nI i))] → HH D base σ H → va_S (mp_A base) s.heap H locs → W p l e R s m [.ref (ad 0 0), .ref (ad 9 d), .int kk, .int k2].toArray below meth c H locs 0 0 (mp_Q below s 0 0 base (mp_P D cl_L base s (fun o σ' _ => o = .returned (some (.int (nI 25))) ∧ Lay ar ad rg pl (ssa pl f n nc V d kk k2) M σ'))) (F0 m 53 ls []) := by
    intro n131
    induction n131 with
    | zero => intro i σ hi hL hmz; exact absurd hmz (Nat.not_lt_zero _)
    | succ n131 ihloop130 =>
      intro i σ hi hL hmz ls H locs hl hH hS
      have hm1 := m1_100 (n + i)
      refine lv_iload x.1 x.2.1 dd_sg_sendToAll_53 (lv_at hl 1 rfl) ?_
      refine lv_bipush (v := nI 25) x.1 x.2.1 dd_sg_sendToAll_55 (by decide +kernel) ?_
      refine lv_icmp_ge (tgt := 76) x.1 x.2.1 dd_sg_sendToAll_57 (by decide) (fun c132 => ?_) (fun c132 => ?_)
      · have c132 : 25 ≤ i := (cv_le (a := 25) (b := i) (by omega) (by omega)).mp c132
        refine lv_bipush (v := nI 25) x.1 x.2.1 dd_sg_sendToAll_76 (by decide +kernel) ?_
        obtain rfl : i = 25 := by omega
        exact mp_ri x hr hlk (by decide) (by decide) hH hS (fun _ => ⟨rfl, hL⟩) dd_sg_sendToAll_78
      · have c132 : ¬ (25 ≤ i) := fun h => c132 ((cv_le (a := 25) (b := i) (by omega) (by omega)).mpr h)
        refine lv_aload_n x.1 x.2.1 dd_sg_sendToAll_60 rfl (lv_at hl 0 rfl) ?_
        refine mp_get x hH (la0 hL) fg_sg_27 rfl dd_sg_sendToAll_61 ?_
        refine lv_iload x.1 x.2.1 dd_sg_sendToAll_64 (lv_at hl 1 rfl) ?_
        refine mp_call x (wt_mv base) hG hB hl.1 (mp_invV (av := [.int (nI i)]) x hH (la2 hL) rfl rfl mn_lr_send mc_lr_send (Or.inr ⟨_, ww_498⟩) ww_500 ww_16 rfl dd_sg_sendToAll_66) (kk_R_send (nc := nc) hL ⟨(sal_RW hrw2 i).1, by omega, (sal_RW hrw2 i).2.2.1, by omega, hpl⟩ ((sal_d hpl (by omega) i).trans hc52) (by omega)) (Nat.le_trans (Nat.le_of_ble_eq_true rfl) hfr) (Nat.le_trans (Nat.le_of_ble_eq_true rfl) hlo) (Nat.le_trans (Nat.le_of_ble_eq_true rfl) hce) (Nat.le_trans (Nat.le_of_ble_eq_true rfl) hsl) hH hS (fun v σa t0 H locs hp133 ht0 hvm hzz hH hS => ?_) (fun _ _ _ _ _ hz _ _ _ _ _ => by cases hz.1)
        obtain ⟨ho, hL⟩ := hp133
        cases ho
        refine W.eq (g2 := F0 m 69 ls [.int (if m1 (n + i) < 100 then nI 1 else nI 0)]) rfl ?_
        refine lv_pop x.1 x.2.1 dd_sg_sendToAll_69 rfl ?_
        refine lv_iinc (v := nI (i + 1)) (lv' := [(5, .int (nI (i + 1))), (0, .ref (ad 0 0))]) x.1 x.2.1 dd_sg_sendToAll_70 hl (k := 1) rfl (mn_inc _) (by decide) rfl (fun ls hl => ?_)
        refine lv_goto (tgt := 53) x.1 x.2.1 dd_sg_sendToAll_73 (by decide) ?_
        exact ihloop130 (i + 1) _ (by omega) hL (by omega) ls H _ (lv_sub hl [1, 0] rfl) hH hS
  exact loop130 _ 0 _ (by decide) hL (Nat.lt_succ_self _) ls H _ (lv_sub hl [2, 0] rfl) hH hS
theorem nxt_le {ab sp : Nat} (h : sp < 25) : nxt ab sp ≤ 25024 := by
  unfold nxt
  split <;> omega
def ssr (pl : Nat → Nat) (f n nc : Nat) (V : fV) (d nx : Nat) : fV := if nx = 0 then sen V d else ssa pl f n nc (sfg (mu (mu (mu V 33 d (nI nx)) 38 d (nI nx)) 39 d (nI 1)) d) d (nI 1) (-1)
set_option maxRecDepth 100000 in
set_option maxHeartbeats 4000000 in
theorem kk_G_startRound {l : Launch} {D : va_G} {ar : Nat → ClassId} {base : Nat} {σ : mp_M} {ad : Nat → Nat → Nat} {rg : Nat → Bool} {pl : Nat → Nat} {V M : fV} {f n d nc g pr rf sp nx : Nat} (hL : Lay ar ad rg pl V M σ) (hrw : RW pl V f n) (hd : dk rg d) (hc : V 34 d = nI nc) (hc2 : nc ≤ 12) (h1 : V 33 d = nI g) (h2 : V 30 d = nI pr) (h3 : V 41 d = nI rf) (h4 : V 63 d = nI sp) (hg : g < 2 ^ 30) (hp : pr < 2 ^ 30) (hr9 : rf < 2 ^ 30) (hsp : sp < 25) (hnx : nxt (mx g (mx pr rf)) sp = nx) : CN l D ar base yy_sg_startRound prog_1_method_26_code 3 (Option.some Jvm.ClassFile.FieldType.int) [] 4 57 0 0 [.ref (ad 0 0), .ref (ad 9 d)] σ (fun o σ' _ => o = .returned (some (.int (if nx = 0 then nI 0 else nI 25))) ∧ Lay ar ad rg pl (ssr pl f n nc V d nx) M σ') := by
  refine mp_in (Nat.le_of_ble_eq_true rfl) ?_
  intro p e R s m below meth c x hfr hlo hce hsl hr hlk hin hex hG hB ls H hH0 hH hS hl
  have hl : lv_has ls 3 [(0, .ref (ad 0 0)), (1, .ref (ad 9 d))] := hl
  obtain ⟨hf, hf2, hn, hn2, hpl⟩ := id hrw
  refine lv_aload_n x.1 x.2.1 dd_sg_startRound_0 rfl (lv_at hl 1 rfl) ?_
  refine mp_call x (wt_mv base) hG hB hl.1 (mp_invV (av := []) x hH (la9 hL hd) rfl rfl mn_dk_nextNumber mc_dk_nextNumber (Or.inr ⟨_, ww_471⟩) ww_473 ww_11 rfl dd_sg_startRound_1) (kk_D_next (g := g) (pr := pr) (rf := rf) (sp := sp) hL hd (h1) (h2) (h3) (h4) (by omega) (by omega) (by omega) (by omega)) (Nat.le_trans (Nat.le_of_ble_eq_true rfl) hfr) (Nat.le_trans (Nat.le_of_ble_eq_true rfl) hlo) (Nat.le_trans (Nat.le_of_ble_eq_true rfl) hce) (Nat.le_trans (Nat.le_of_ble_eq_true rfl) hsl) hH hS (fun v σa t0 H locs hp134 ht0 hvm hzz hH hS => ?_) (fun _ _ _ _ _ hz _ _ _ _ _ => by cases hz.1)
  obtain ⟨ho, hσ⟩ := hp134
  cases ho
  rw [hσ] at hH
  refine W.eq (g2 := F0 m 4 ls [.int (nI (nxt (mx g (mx pr rf)) sp))]) rfl ?_
  have hnl := nxt_le (ab := mx g (mx pr rf)) hsp
  rw [hnx] at hnl
  refine mn_top (w := nI nx) (congrArg nI hnx) ?_
  refine lv_istore_n (lv' := [(2, .int (nI nx)), (0, .ref (ad 0 0)), (1, .ref (ad 9 d))]) x.1 x.2.1 dd_sg_startRound_4 rfl hl (by decide) rfl (fun ls hl => ?_)
  refine lv_iload_n x.1 x.2.1 dd_sg_startRound_5 rfl (lv_at hl 0 rfl) ?_
  refine lv_if_ne (tgt := 18) x.1 x.2.1 dd_sg_startRound_6 (by decide) (fun c135 => ?_) (fun c135 => ?_)
  · have c135 : ¬ (nx = 0) := fun h => c135 ((cv_eq (a := nx) (b := 0) (by omega) (by omega)).mpr h)
    refine lv_aload_n x.1 x.2.1 dd_sg_startRound_18 rfl (lv_at hl 2 rfl) ?_
    refine lv_iload_n x.1 x.2.1 dd_sg_startRound_19 rfl (lv_at hl 0 rfl) ?_
    refine kp_33 x hH hS hL hd fp_sg_206 dd_sg_startRound_20 (fun σ hL H locs hH hS => ?_)
    refine lv_aload_n x.1 x.2.1 dd_sg_startRound_23 rfl (lv_at hl 2 rfl) ?_
    refine mp_get x hH (la9 hL hd) fg_sg_72 rfl dd_sg_startRound_24 ?_
    refine lv_iload_n x.1 x.2.1 dd_sg_startRound_27 rfl (lv_at hl 0 rfl) ?_
    refine mp_call x (wt_mv base) hG hB hl.1 (mp_invV (av := [.int (nI nx)]) x hH (la12 hL hd) rfl rfl mn_ak_beginRound mc_ak_beginRound (Or.inr ⟨_, ww_482⟩) ww_484 ww_12 rfl dd_sg_startRound_28) (kk_A_beginRound hL hd) (Nat.le_trans (Nat.le_of_ble_eq_true rfl) hfr) (Nat.le_trans (Nat.le_of_ble_eq_true rfl) hlo) (Nat.le_trans (Nat.le_of_ble_eq_true rfl) hce) (Nat.le_trans (Nat.le_of_ble_eq_true rfl) hsl) hH hS (fun v σa t0 H locs hp136 ht0 hvm hzz hH hS => ?_) (fun _ _ _ _ _ hz _ _ _ _ _ => by cases hz.1)
    obtain ⟨ho, hL⟩ := hp136
    cases ho
    refine W.eq (g2 := F0 m 31 ls []) rfl ?_
    refine lv_aload_n x.1 x.2.1 dd_sg_startRound_31 rfl (lv_at hl 1 rfl) ?_
    refine lv_aload_n x.1 x.2.1 dd_sg_startRound_32 rfl (lv_at hl 2 rfl) ?_
    refine lv_iconst (v := nI 1) x.1 x.2.1 dd_sg_startRound_33 (by decide +kernel) ?_
    refine lv_iconst (v := (-1)) x.1 x.2.1 dd_sg_startRound_34 (by decide +kernel) ?_
    refine mp_call x (wt_mv base) hG hB hl.1 (mp_invV (av := [.ref (ad 9 d), .int (nI 1), .int (-1)]) x hH (la0 hL) rfl rfl mn_sg_sendToAll mc_sg_sendToAll (Or.inl ww_486) ww_488 ww_13 rfl dd_sg_startRound_35) (kk_G_sendToAll (nc := nc) hL ⟨(mu_k (by decide)).trans ((mu_k (by decide)).trans ((mu_k (by decide)).trans ((mu_k (by decide)).trans ((mu_k (by decide)).trans ((mu_k (by decide)).trans (hf)))))), by omega, (mu_k (by decide)).trans ((mu_k (by decide)).trans ((mu_k (by decide)).trans ((mu_k (by decide)).trans ((mu_k (by decide)).trans ((mu_k (by decide)).trans (hn)))))), by omega, hpl⟩ hd ((mu_k (by decide)).trans ((mu_k (by decide)).trans ((mu_k (by decide)).trans ((mu_k (by decide)).trans ((mu_k (by decide)).trans ((mu_k (by decide)).trans (hc))))))) (by omega)) (Nat.le_trans (Nat.le_of_ble_eq_true rfl) hfr) (Nat.le_trans (Nat.le_of_ble_eq_true rfl) hlo) (Nat.le_trans (Nat.le_of_ble_eq_true rfl) hce) (Nat.le_trans (Nat.le_of_ble_eq_true rfl) hsl) hH hS (fun v σa t0 H locs hp137 ht0 hvm hzz hH hS => ?_) (fun _ _ _ _ _ hz _ _ _ _ _ => by cases hz.1)
    obtain ⟨ho, hL⟩ := hp137
    cases ho
    refine W.eq (g2 := F0 m 38 ls [.int (nI 25)]) rfl ?_
    exact mp_ri x hr hlk (by decide) (by decide) hH hS (fun _ => ⟨(congrArg (fun z => Outcome.returned (some (.int z))) ((if_neg c135).symm)), by unfold ssr; rw [if_neg c135]; exact hL⟩) dd_sg_startRound_38
  · have c135 : nx = 0 := (cv_eq (a := nx) (b := 0) (by omega) (by omega)).mp c135
    refine lv_aload_n x.1 x.2.1 dd_sg_startRound_9 rfl (lv_at hl 2 rfl) ?_
    refine mp_get x hH (la9 hL hd) fg_sg_72 rfl dd_sg_startRound_10 ?_
    refine mp_call x (wt_mv base) hG hB hl.1 (mp_invV (av := []) x hH (la12 hL hd) rfl rfl mn_ak_end mc_ak_end (Or.inr ⟨_, ww_481⟩) ww_111 ww_0 rfl dd_sg_startRound_13) (kk_A_end hL hd) (Nat.le_trans (Nat.le_of_ble_eq_true rfl) hfr) (Nat.le_trans (Nat.le_of_ble_eq_true rfl) hlo) (Nat.le_trans (Nat.le_of_ble_eq_true rfl) hce) (Nat.le_trans (Nat.le_of_ble_eq_true rfl) hsl) hH hS (fun v σa t0 H locs hp138 ht0 hvm hzz hH hS => ?_) (fun _ _ _ _ _ hz _ _ _ _ _ => by cases hz.1)
    obtain ⟨ho, hL⟩ := hp138
    cases ho
    refine W.eq (g2 := F0 m 16 ls []) rfl ?_
    refine lv_iconst (v := nI 0) x.1 x.2.1 dd_sg_startRound_16 (by decide +kernel) ?_
    exact mp_ri x hr hlk (by decide) (by decide) hH hS (fun _ => ⟨(congrArg (fun z => Outcome.returned (some (.int z))) ((if_pos c135).symm)), by unfold ssr; rw [if_pos c135]; exact hL⟩) dd_sg_startRound_17
def san (pl : Nat → Nat) (f n nc : Nat) (V : fV) (d t : Nat) (kk k1 k2 : Int32) : fV := snd pl f n nc (mu (mu (swr V 101 kk (V 46 t) (V 47 t) (V 48 t) (V 49 t) d nc) 50 101 k1) 51 101 k2) (V 45 t)
set_option maxRecDepth 100000 in
set_option maxHeartbeats 4000000 in
theorem kk_G_answer {l : Launch} {D : va_G} {ar : Nat → ClassId} {base : Nat} {σ : mp_M} {ad : Nat → Nat → Nat} {rg : Nat → Bool} {pl : Nat → Nat} {V M : fV} {f n d t nc : Nat} {kk k1 k2 : Int32} (hL : Lay ar ad rg pl V M σ) (hrw : RW pl V f n) (hd : dk rg d) (ht : t < 101) (hc : V 34 d = nI nc) (hc2 : nc ≤ 12) : CN l D ar base yy_sg_answer prog_1_method_30_code 7 (Option.some Jvm.ClassFile.FieldType.int) [] 3 40 0 0 [.ref (ad 0 0), .ref (ad 9 d), .ref (ad 4 t), .int kk, .int k1, .int k2] σ (fun o σ' _ => o = .returned (some (.int (nI 1))) ∧ Lay ar ad rg pl (san pl f n nc V d t kk k1 k2) M σ') := by
  refine mp_in (Nat.le_of_ble_eq_true rfl) ?_
  intro p e R s m below meth c x hfr hlo hce hsl hr hlk hin hex hG hB ls H hH0 hH hS hl
  have hl : lv_has ls 7 [(0, .ref (ad 0 0)), (1, .ref (ad 9 d)), (2, .ref (ad 4 t)), (3, .int kk), (4, .int k1), (5, .int k2)] := hl
  obtain ⟨hf, hf2, hn, hn2, hpl⟩ := id hrw
  refine lv_aload_n x.1 x.2.1 dd_sg_answer_0 rfl (lv_at hl 0 rfl) ?_
  refine mp_get x hH (la0 hL) fg_sg_27 rfl dd_sg_answer_1 ?_
  refine mp_get x hH (la2 hL) fg_sg_132 rfl dd_sg_answer_4 ?_
  refine lv_astore (lv' := [(6, .ref (ad 4 101)), (0, .ref (ad 0 0)), (1, .ref (ad 9 d)), (2, .ref (ad 4 t)), (3, .int kk), (4, .int k1), (5, .int k2)]) x.1 x.2.1 dd_sg_answer_7 hl (by decide) rfl (fun ls hl => ?_)
  refine lv_aload x.1 x.2.1 dd_sg_answer_9 (lv_at hl 0 rfl) ?_
  refine lv_iload_n x.1 x.2.1 dd_sg_answer_11 rfl (lv_at hl 4 rfl) ?_
  refine lv_aload_n x.1 x.2.1 dd_sg_answer_12 rfl (lv_at hl 3 rfl) ?_
  refine mp_get x hH (la4 hL (Nat.lt_trans ht (by decide))) fg_sg_231 rfl dd_sg_answer_13 ?_
  refine lv_aload_n x.1 x.2.1 dd_sg_answer_16 rfl (lv_at hl 3 rfl) ?_
  refine mp_get x hH (la4 hL (Nat.lt_trans ht (by decide))) fg_sg_234 rfl dd_sg_answer_17 ?_
  refine lv_aload_n x.1 x.2.1 dd_sg_answer_20 rfl (lv_at hl 3 rfl) ?_
  refine mp_get x hH (la4 hL (Nat.lt_trans ht (by decide))) fg_sg_255 rfl dd_sg_answer_21 ?_
  refine lv_aload_n x.1 x.2.1 dd_sg_answer_24 rfl (lv_at hl 3 rfl) ?_
  refine mp_get x hH (la4 hL (Nat.lt_trans ht (by decide))) fg_sg_260 rfl dd_sg_answer_25 ?_
  refine lv_aload_n x.1 x.2.1 dd_sg_answer_28 rfl (lv_at hl 2 rfl) ?_
  refine mp_get x hH (la9 hL hd) fg_sg_136 rfl dd_sg_answer_29 ?_
  refine mp_call x (wt_mv base) hG hB hl.1 (mp_invV (av := [.int kk, .int (V 46 t), .int (V 47 t), .int (V 48 t), .int (V 49 t), .ref (ad 10 d)]) x hH (la4 hL (by decide)) rfl rfl mn_lt_write mc_lt_write (Or.inr ⟨_, ww_490⟩) ww_492 ww_14 rfl dd_sg_answer_32) (kk_L_write (nc := nc) hL (by decide) hd (hc) (by omega)) (Nat.le_trans (Nat.le_of_ble_eq_true rfl) hfr) (Nat.le_trans (Nat.le_of_ble_eq_true rfl) hlo) (Nat.le_trans (Nat.le_of_ble_eq_true rfl) hce) (Nat.le_trans (Nat.le_of_ble_eq_true rfl) hsl) hH hS (fun v σa t0 H locs hp139 ht0 hvm hzz hH hS => ?_) (fun _ _ _ _ _ hz _ _ _ _ _ => by cases hz.1)
  obtain ⟨ho, hL⟩ := hp139
  cases ho
  refine W.eq (g2 := F0 m 35 ls []) rfl ?_
  refine lv_aload x.1 x.2.1 dd_sg_answer_35 (lv_at hl 0 rfl) ?_
  refine lv_iload x.1 x.2.1 dd_sg_answer_37 (lv_at hl 5 rfl) ?_
  refine kp_50 x hH hS hL (by decide) fp_sg_270 dd_sg_answer_39 (fun σ hL H locs hH hS => ?_)
  refine lv_aload x.1 x.2.1 dd_sg_answer_42 (lv_at hl 0 rfl) ?_
  refine lv_iload x.1 x.2.1 dd_sg_answer_44 (lv_at hl 6 rfl) ?_
  refine kp_51 x hH hS hL (by decide) fp_sg_228 dd_sg_answer_46 (fun σ hL H locs hH hS => ?_)
  refine lv_aload_n x.1 x.2.1 dd_sg_answer_49 rfl (lv_at hl 1 rfl) ?_
  refine mp_get x hH (la0 hL) fg_sg_27 rfl dd_sg_answer_50 ?_
  refine lv_aload_n x.1 x.2.1 dd_sg_answer_53 rfl (lv_at hl 3 rfl) ?_
  refine mp_get x hH (la4 hL (Nat.lt_trans ht (by decide))) fg_sg_273 rfl dd_sg_answer_54 ?_
  refine mn_top (w := V 45 t) ((mu_k (by decide)).trans ((mu_k (by decide)).trans (swr_o (Or.inr (Or.inr (Nat.ne_of_lt ht))) (by omega)))) ?_
  refine mp_call x (wt_mv base) hG hB hl.1 (mp_invV (av := [.int (V 45 t)]) x hH (la2 hL) rfl rfl mn_lr_send mc_lr_send (Or.inr ⟨_, ww_498⟩) ww_500 ww_16 rfl dd_sg_answer_57) (kk_R_send (nc := nc) hL ⟨(mu_k (by decide)).trans ((mu_k (by decide)).trans ((swr_o (by omega) (by omega)).trans (hf))), by omega, (mu_k (by decide)).trans ((mu_k (by decide)).trans ((swr_o (by omega) (by omega)).trans (hn))), by omega, hpl⟩ ((mu_k (by decide)).trans ((mu_k (by decide)).trans (swr_52 (by decide)))) (by omega)) (Nat.le_trans (Nat.le_of_ble_eq_true rfl) hfr) (Nat.le_trans (Nat.le_of_ble_eq_true rfl) hlo) (Nat.le_trans (Nat.le_of_ble_eq_true rfl) hce) (Nat.le_trans (Nat.le_of_ble_eq_true rfl) hsl) hH hS (fun v σa t0 H locs hp140 ht0 hvm hzz hH hS => ?_) (fun _ _ _ _ _ hz _ _ _ _ _ => by cases hz.1)
  obtain ⟨ho, hL⟩ := hp140
  cases ho
  refine W.eq (g2 := F0 m 60 ls [.int (if n < 100 then nI 1 else nI 0)]) rfl ?_
  refine lv_pop x.1 x.2.1 dd_sg_answer_60 rfl ?_
  refine lv_iconst (v := nI 1) x.1 x.2.1 dd_sg_answer_61 (by decide +kernel) ?_
  exact mp_ri x hr hlk (by decide) (by decide) hH hS (fun _ => ⟨rfl, hL⟩) dd_sg_answer_62
def saa (pl : Nat → Nat) (f n nc : Nat) (V : fV) (d t : Nat) : fV :=
  if V 48 t < nI (nc + 1) then san pl f n nc V d t (nI 6) (nI 0) (-1)
  else if V 49 t < V 30 d then san pl f n nc V d t (nI 5) (V 30 d) (-1)
  else if V 44 t = nI 1 then san pl f n nc (mu V 30 d (V 49 t)) d t (nI 2) (V 31 d) (V 32 d)
  else san pl f n nc (mu (mu (mu V 30 d (V 49 t)) 31 d (V 49 t)) 32 d (V 51 t)) d t (nI 4) (nI 0) (-1)
set_option maxRecDepth 100000 in
set_option maxHeartbeats 4000000 in
theorem kk_G_answerAsker {l : Launch} {D : va_G} {ar : Nat → ClassId} {base : Nat} {σ : mp_M} {ad : Nat → Nat → Nat} {rg : Nat → Bool} {pl : Nat → Nat} {V M : fV} {f n d t nc : Nat} (hL : Lay ar ad rg pl V M σ) (hrw : RW pl V f n) (hd : dk rg d) (ht : t < 101) (hc : V 34 d = nI nc) (hc2 : nc ≤ 12) : CN l D ar base yy_sg_answerAsker prog_1_method_29_code 3 (Option.some Jvm.ClassFile.FieldType.int) [] 4 58 0 0 [.ref (ad 0 0), .ref (ad 9 d), .ref (ad 4 t)] σ (fun o σ' _ => o = .returned (some (.int (nI 1))) ∧ Lay ar ad rg pl (saa pl f n nc V d t) M σ') := by
  refine mp_in (Nat.le_of_ble_eq_true rfl) ?_
  intro p e R s m below meth c x hfr hlo hce hsl hr hlk hin hex hG hB ls H hH0 hH hS hl
  have hl : lv_has ls 3 [(0, .ref (ad 0 0)), (1, .ref (ad 9 d)), (2, .ref (ad 4 t))] := hl
  obtain ⟨hf, hf2, hn, hn2, hpl⟩ := id hrw
  refine lv_aload_n x.1 x.2.1 dd_sg_answerAsker_0 rfl (lv_at hl 2 rfl) ?_
  refine mp_get x hH (la4 hL (Nat.lt_trans ht (by decide))) fg_sg_255 rfl dd_sg_answerAsker_1 ?_
  refine lv_aload_n x.1 x.2.1 dd_sg_answerAsker_4 rfl (lv_at hl 1 rfl) ?_
  refine mp_call x (wt_mv base) hG hB hl.1 (mp_invV (av := []) x hH (la9 hL hd) rfl rfl mn_dk_openSupply mc_dk_openSupply (Or.inr ⟨_, ww_456⟩) ww_458 ww_8 rfl dd_sg_answerAsker_5) (kk_D_open (nc := nc) hL hd (hc)) (Nat.le_trans (Nat.le_of_ble_eq_true rfl) hfr) (Nat.le_trans (Nat.le_of_ble_eq_true rfl) hlo) (Nat.le_trans (Nat.le_of_ble_eq_true rfl) hce) (Nat.le_trans (Nat.le_of_ble_eq_true rfl) hsl) hH hS (fun v σa t0 H locs hp141 ht0 hvm hzz hH hS => ?_) (fun _ _ _ _ _ hz _ _ _ _ _ => by cases hz.1)
  obtain ⟨ho, hσ⟩ := hp141
  cases ho
  rw [hσ] at hH
  refine W.eq (g2 := F0 m 8 ls [.int (nI (nc + 1)), .int (V 48 t)]) rfl ?_
  refine lv_icmp_ge (tgt := 22) x.1 x.2.1 dd_sg_answerAsker_8 (by decide) (fun c142 => ?_) (fun c142 => ?_)
  · refine lv_aload_n x.1 x.2.1 dd_sg_answerAsker_22 rfl (lv_at hl 2 rfl) ?_
    refine mp_get x hH (la4 hL (Nat.lt_trans ht (by decide))) fg_sg_260 rfl dd_sg_answerAsker_23 ?_
    refine lv_aload_n x.1 x.2.1 dd_sg_answerAsker_26 rfl (lv_at hl 1 rfl) ?_
    refine mp_get x hH (la9 hL hd) fg_sg_261 rfl dd_sg_answerAsker_27 ?_
    refine lv_icmp_ge (tgt := 46) x.1 x.2.1 dd_sg_answerAsker_30 (by decide) (fun c143 => ?_) (fun c143 => ?_)
    · refine lv_aload_n x.1 x.2.1 dd_sg_answerAsker_46 rfl (lv_at hl 1 rfl) ?_
      refine lv_aload_n x.1 x.2.1 dd_sg_answerAsker_47 rfl (lv_at hl 2 rfl) ?_
      refine mp_get x hH (la4 hL (Nat.lt_trans ht (by decide))) fg_sg_260 rfl dd_sg_answerAsker_48 ?_
      refine kp_30 x hH hS hL hd fp_sg_261 dd_sg_answerAsker_51 (fun σ hL H locs hH hS => ?_)
      refine lv_aload_n x.1 x.2.1 dd_sg_answerAsker_54 rfl (lv_at hl 2 rfl) ?_
      refine mp_get x hH (la4 hL (Nat.lt_trans ht (by decide))) fg_sg_114 rfl dd_sg_answerAsker_55 ?_
      refine mn_top (w := V 44 t) (mu_k (by decide)) ?_
      refine lv_iconst (v := nI 1) x.1 x.2.1 dd_sg_answerAsker_58 (by decide +kernel) ?_
      refine lv_icmp_ne (tgt := 78) x.1 x.2.1 dd_sg_answerAsker_59 (by decide) (fun c144 => ?_) (fun c144 => ?_)
      · refine lv_aload_n x.1 x.2.1 dd_sg_answerAsker_78 rfl (lv_at hl 1 rfl) ?_
        refine lv_aload_n x.1 x.2.1 dd_sg_answerAsker_79 rfl (lv_at hl 2 rfl) ?_
        refine mp_get x hH (la4 hL (Nat.lt_trans ht (by decide))) fg_sg_260 rfl dd_sg_answerAsker_80 ?_
        refine mn_top (w := V 49 t) (mu_k (by decide)) ?_
        refine kp_31 x hH hS hL hd fp_sg_264 dd_sg_answerAsker_83 (fun σ hL H locs hH hS => ?_)
        refine lv_aload_n x.1 x.2.1 dd_sg_answerAsker_86 rfl (lv_at hl 1 rfl) ?_
        refine lv_aload_n x.1 x.2.1 dd_sg_answerAsker_87 rfl (lv_at hl 2 rfl) ?_
        refine mp_get x hH (la4 hL (Nat.lt_trans ht (by decide))) fg_sg_228 rfl dd_sg_answerAsker_88 ?_
        refine mn_top (w := V 51 t) ((mu_k (by decide)).trans (mu_k (by decide))) ?_
        refine kp_32 x hH hS hL hd fp_sg_267 dd_sg_answerAsker_91 (fun σ hL H locs hH hS => ?_)
        refine lv_aload_n x.1 x.2.1 dd_sg_answerAsker_94 rfl (lv_at hl 0 rfl) ?_
        refine lv_aload_n x.1 x.2.1 dd_sg_answerAsker_95 rfl (lv_at hl 1 rfl) ?_
        refine lv_aload_n x.1 x.2.1 dd_sg_answerAsker_96 rfl (lv_at hl 2 rfl) ?_
        refine lv_iconst (v := nI 4) x.1 x.2.1 dd_sg_answerAsker_97 (by decide +kernel) ?_
        refine lv_iconst (v := nI 0) x.1 x.2.1 dd_sg_answerAsker_98 (by decide +kernel) ?_
        refine lv_iconst (v := (-1)) x.1 x.2.1 dd_sg_answerAsker_99 (by decide +kernel) ?_
        refine mp_call x (wt_mv base) hG hB hl.1 (mp_invV (av := [.ref (ad 9 d), .ref (ad 4 t), .int (nI 4), .int (nI 0), .int (-1)]) x hH (la0 hL) rfl rfl mn_sg_answer mc_sg_answer (Or.inl ww_571) ww_573 ww_30 rfl dd_sg_answerAsker_100) (kk_G_answer (nc := nc) hL ⟨(mu_k (by decide)).trans ((mu_k (by decide)).trans ((mu_k (by decide)).trans (hf))), by omega, (mu_k (by decide)).trans ((mu_k (by decide)).trans ((mu_k (by decide)).trans (hn))), by omega, hpl⟩ hd ht ((mu_k (by decide)).trans ((mu_k (by decide)).trans ((mu_k (by decide)).trans (hc)))) (by omega)) (Nat.le_trans (Nat.le_of_ble_eq_true rfl) hfr) (Nat.le_trans (Nat.le_of_ble_eq_true rfl) hlo) (Nat.le_trans (Nat.le_of_ble_eq_true rfl) hce) (Nat.le_trans (Nat.le_of_ble_eq_true rfl) hsl) hH hS (fun v σa t0 H locs hp145 ht0 hvm hzz hH hS => ?_) (fun _ _ _ _ _ hz _ _ _ _ _ => by cases hz.1)
        obtain ⟨ho, hL⟩ := hp145
        cases ho
        refine W.eq (g2 := F0 m 103 ls [.int (nI 1)]) rfl ?_
        exact mp_ri x hr hlk (by decide) (by decide) hH hS (fun _ => ⟨rfl, by unfold saa; rw [if_neg (Int32.not_lt.mpr c142), if_neg (Int32.not_lt.mpr c143), if_neg c144]; exact hL⟩) dd_sg_answerAsker_103
      · refine lv_aload_n x.1 x.2.1 dd_sg_answerAsker_62 rfl (lv_at hl 0 rfl) ?_
        refine lv_aload_n x.1 x.2.1 dd_sg_answerAsker_63 rfl (lv_at hl 1 rfl) ?_
        refine lv_aload_n x.1 x.2.1 dd_sg_answerAsker_64 rfl (lv_at hl 2 rfl) ?_
        refine lv_iconst (v := nI 2) x.1 x.2.1 dd_sg_answerAsker_65 (by decide +kernel) ?_
        refine lv_aload_n x.1 x.2.1 dd_sg_answerAsker_66 rfl (lv_at hl 1 rfl) ?_
        refine mp_get x hH (la9 hL hd) fg_sg_264 rfl dd_sg_answerAsker_67 ?_
        refine mn_top (w := V 31 d) (mu_k (by decide)) ?_
        refine lv_aload_n x.1 x.2.1 dd_sg_answerAsker_70 rfl (lv_at hl 1 rfl) ?_
        refine mp_get x hH (la9 hL hd) fg_sg_267 rfl dd_sg_answerAsker_71 ?_
        refine mn_top (w := V 32 d) (mu_k (by decide)) ?_
        refine mp_call x (wt_mv base) hG hB hl.1 (mp_invV (av := [.ref (ad 9 d), .ref (ad 4 t), .int (nI 2), .int (V 31 d), .int (V 32 d)]) x hH (la0 hL) rfl rfl mn_sg_answer mc_sg_answer (Or.inl ww_571) ww_573 ww_30 rfl dd_sg_answerAsker_74) (kk_G_answer (nc := nc) hL ⟨(mu_k (by decide)).trans (hf), by omega, (mu_k (by decide)).trans (hn), by omega, hpl⟩ hd ht ((mu_k (by decide)).trans (hc)) (by omega)) (Nat.le_trans (Nat.le_of_ble_eq_true rfl) hfr) (Nat.le_trans (Nat.le_of_ble_eq_true rfl) hlo) (Nat.le_trans (Nat.le_of_ble_eq_true rfl) hce) (Nat.le_trans (Nat.le_of_ble_eq_true rfl) hsl) hH hS (fun v σa t0 H locs hp146 ht0 hvm hzz hH hS => ?_) (fun _ _ _ _ _ hz _ _ _ _ _ => by cases hz.1)
        obtain ⟨ho, hL⟩ := hp146
        cases ho
        refine W.eq (g2 := F0 m 77 ls [.int (nI 1)]) rfl ?_
        exact mp_ri x hr hlk (by decide) (by decide) hH hS (fun _ => ⟨rfl, by unfold saa; rw [if_neg (Int32.not_lt.mpr c142), if_neg (Int32.not_lt.mpr c143), if_pos c144]; exact hL⟩) dd_sg_answerAsker_77
    · refine lv_aload_n x.1 x.2.1 dd_sg_answerAsker_33 rfl (lv_at hl 0 rfl) ?_
      refine lv_aload_n x.1 x.2.1 dd_sg_answerAsker_34 rfl (lv_at hl 1 rfl) ?_
      refine lv_aload_n x.1 x.2.1 dd_sg_answerAsker_35 rfl (lv_at hl 2 rfl) ?_
      refine lv_iconst (v := nI 5) x.1 x.2.1 dd_sg_answerAsker_36 (by decide +kernel) ?_
      refine lv_aload_n x.1 x.2.1 dd_sg_answerAsker_37 rfl (lv_at hl 1 rfl) ?_
      refine mp_get x hH (la9 hL hd) fg_sg_261 rfl dd_sg_answerAsker_38 ?_
      refine lv_iconst (v := (-1)) x.1 x.2.1 dd_sg_answerAsker_41 (by decide +kernel) ?_
      refine mp_call x (wt_mv base) hG hB hl.1 (mp_invV (av := [.ref (ad 9 d), .ref (ad 4 t), .int (nI 5), .int (V 30 d), .int (-1)]) x hH (la0 hL) rfl rfl mn_sg_answer mc_sg_answer (Or.inl ww_571) ww_573 ww_30 rfl dd_sg_answerAsker_42) (kk_G_answer (nc := nc) hL ⟨hf, by omega, hn, by omega, hpl⟩ hd ht (hc) (by omega)) (Nat.le_trans (Nat.le_of_ble_eq_true rfl) hfr) (Nat.le_trans (Nat.le_of_ble_eq_true rfl) hlo) (Nat.le_trans (Nat.le_of_ble_eq_true rfl) hce) (Nat.le_trans (Nat.le_of_ble_eq_true rfl) hsl) hH hS (fun v σa t0 H locs hp147 ht0 hvm hzz hH hS => ?_) (fun _ _ _ _ _ hz _ _ _ _ _ => by cases hz.1)
      obtain ⟨ho, hL⟩ := hp147
      cases ho
      refine W.eq (g2 := F0 m 45 ls [.int (nI 1)]) rfl ?_
      exact mp_ri x hr hlk (by decide) (by decide) hH hS (fun _ => ⟨rfl, by unfold saa; rw [if_neg (Int32.not_lt.mpr c142), if_pos (Int32.not_le.mp c143)]; exact hL⟩) dd_sg_answerAsker_45
  · refine lv_aload_n x.1 x.2.1 dd_sg_answerAsker_11 rfl (lv_at hl 0 rfl) ?_
    refine lv_aload_n x.1 x.2.1 dd_sg_answerAsker_12 rfl (lv_at hl 1 rfl) ?_
    refine lv_aload_n x.1 x.2.1 dd_sg_answerAsker_13 rfl (lv_at hl 2 rfl) ?_
    refine lv_bipush (v := nI 6) x.1 x.2.1 dd_sg_answerAsker_14 (by decide +kernel) ?_
    refine lv_iconst (v := nI 0) x.1 x.2.1 dd_sg_answerAsker_16 (by decide +kernel) ?_
    refine lv_iconst (v := (-1)) x.1 x.2.1 dd_sg_answerAsker_17 (by decide +kernel) ?_
    refine mp_call x (wt_mv base) hG hB hl.1 (mp_invV (av := [.ref (ad 9 d), .ref (ad 4 t), .int (nI 6), .int (nI 0), .int (-1)]) x hH (la0 hL) rfl rfl mn_sg_answer mc_sg_answer (Or.inl ww_571) ww_573 ww_30 rfl dd_sg_answerAsker_18) (kk_G_answer (nc := nc) hL ⟨hf, by omega, hn, by omega, hpl⟩ hd ht (hc) (by omega)) (Nat.le_trans (Nat.le_of_ble_eq_true rfl) hfr) (Nat.le_trans (Nat.le_of_ble_eq_true rfl) hlo) (Nat.le_trans (Nat.le_of_ble_eq_true rfl) hce) (Nat.le_trans (Nat.le_of_ble_eq_true rfl) hsl) hH hS (fun v σa t0 H locs hp148 ht0 hvm hzz hH hS => ?_) (fun _ _ _ _ _ hz _ _ _ _ _ => by cases hz.1)
    obtain ⟨ho, hL⟩ := hp148
    cases ho
    refine W.eq (g2 := F0 m 21 ls [.int (nI 1)]) rfl ?_
    exact mp_ri x hr hlk (by decide) (by decide) hH hS (fun _ => ⟨rfl, by unfold saa; rw [if_pos (Int32.not_le.mp c142)]; exact hL⟩) dd_sg_answerAsker_21
def scp (pl : Nat → Nat) (f n nc : Nat) (V : fV) (d t : Nat) : fV :=
  if wts V d t (nI 1) = 0 then V else if tec (sca V d t 40 d) = 0 then sca V d t else ssa pl f n nc (sb2 (sca V d t) d) d (nI 3) (sb2 (sca V d t) d 37 d)
def scr (V : fV) (d t : Nat) : Int32 := if wts V d t (nI 1) = 0 then nI 0 else if tec (sca V d t 40 d) = 0 then nI 0 else nI 25
def sac (V : fV) (d t nc : Nat) : fV :=
  if wts V d t (nI 2) = 0 then V else if hwc (sca V d t 40 d) = 0 then sca V d t else son (mu (mu (sca V d t) (100 + d) nc (sca V d t 37 d)) 34 d (nI (nc + 1))) d
set_option maxRecDepth 100000 in
set_option maxHeartbeats 4000000 in
theorem kk_G_countPromise {l : Launch} {D : va_G} {ar : Nat → ClassId} {base : Nat} {σ : mp_M} {ad : Nat → Nat → Nat} {rg : Nat → Bool} {pl : Nat → Nat} {V M : fV} {f n d t nc : Nat} (hL : Lay ar ad rg pl V M σ) (hrw : RW pl V f n) (hd : dk rg d) (ht : t < 101) (hc : V 34 d = nI nc) (hc2 : nc ≤ 12) : CN l D ar base yy_sg_countPromise prog_1_method_31_code 4 (Option.some Jvm.ClassFile.FieldType.int) [] 4 57 0 0 [.ref (ad 0 0), .ref (ad 9 d), .ref (ad 4 t)] σ (fun o σ' _ => o = .returned (some (.int (scr V d t))) ∧ Lay ar ad rg pl (scp pl f n nc V d t) M σ') := by
  refine mp_in (Nat.le_of_ble_eq_true rfl) ?_
  intro p e R s m below meth c x hfr hlo hce hsl hr hlk hin hex hG hB ls H hH0 hH hS hl
  have hl : lv_has ls 4 [(0, .ref (ad 0 0)), (1, .ref (ad 9 d)), (2, .ref (ad 4 t))] := hl
  obtain ⟨hf, hf2, hn, hn2, hpl⟩ := id hrw
  refine lv_aload_n x.1 x.2.1 dd_sg_countPromise_0 rfl (lv_at hl 1 rfl) ?_
  refine mp_get x hH (la9 hL hd) fg_sg_72 rfl dd_sg_countPromise_1 ?_
  refine lv_astore_n (lv' := [(3, .ref (ad 12 d)), (0, .ref (ad 0 0)), (1, .ref (ad 9 d)), (2, .ref (ad 4 t))]) x.1 x.2.1 dd_sg_countPromise_4 rfl hl (by decide) rfl (fun ls hl => ?_)
  refine lv_aload_n x.1 x.2.1 dd_sg_countPromise_5 rfl (lv_at hl 0 rfl) ?_
  refine lv_aload_n x.1 x.2.1 dd_sg_countPromise_6 rfl (lv_at hl 3 rfl) ?_
  refine lv_iconst (v := nI 1) x.1 x.2.1 dd_sg_countPromise_7 (by decide +kernel) ?_
  refine mp_call x (wt_mv base) hG hB hl.1 (mp_invV (av := [.ref (ad 4 t), .int (nI 1)]) x hH (la12 hL hd) rfl rfl mn_ak_waitsFor mc_ak_waitsFor (Or.inr ⟨_, ww_579⟩) ww_581 ww_32 rfl dd_sg_countPromise_8) (kk_A_waitsFor hL hd (Nat.lt_trans ht (by decide))) (Nat.le_trans (Nat.le_of_ble_eq_true rfl) hfr) (Nat.le_trans (Nat.le_of_ble_eq_true rfl) hlo) (Nat.le_trans (Nat.le_of_ble_eq_true rfl) hce) (Nat.le_trans (Nat.le_of_ble_eq_true rfl) hsl) hH hS (fun v σa t0 H locs hp149 ht0 hvm hzz hH hS => ?_) (fun _ _ _ _ _ hz _ _ _ _ _ => by cases hz.1)
  obtain ⟨ho, hσ⟩ := hp149
  cases ho
  rw [hσ] at hH
  refine W.eq (g2 := F0 m 11 ls [.int (wts V d t (nI 1))]) rfl ?_
  refine lv_if_ne (tgt := 16) x.1 x.2.1 dd_sg_countPromise_11 (by decide) (fun c150 => ?_) (fun c150 => ?_)
  · refine lv_aload_n x.1 x.2.1 dd_sg_countPromise_16 rfl (lv_at hl 0 rfl) ?_
    refine lv_aload_n x.1 x.2.1 dd_sg_countPromise_17 rfl (lv_at hl 3 rfl) ?_
    refine mp_call x (wt_mv base) hG hB hl.1 (mp_invV (av := [.ref (ad 4 t)]) x hH (la12 hL hd) rfl rfl mn_ak_countAnswer mc_ak_countAnswer (Or.inr ⟨_, ww_583⟩) ww_585 ww_33 rfl dd_sg_countPromise_18) (kk_A_countAnswer hL hd (Nat.lt_trans ht (by decide))) (Nat.le_trans (Nat.le_of_ble_eq_true rfl) hfr) (Nat.le_trans (Nat.le_of_ble_eq_true rfl) hlo) (Nat.le_trans (Nat.le_of_ble_eq_true rfl) hce) (Nat.le_trans (Nat.le_of_ble_eq_true rfl) hsl) hH hS (fun v σa t0 H locs hp151 ht0 hvm hzz hH hS => ?_) (fun _ _ _ _ _ hz _ _ _ _ _ => by cases hz.1)
    obtain ⟨ho, hL⟩ := hp151
    cases ho
    refine W.eq (g2 := F0 m 21 ls []) rfl ?_
    refine lv_aload_n x.1 x.2.1 dd_sg_countPromise_21 rfl (lv_at hl 0 rfl) ?_
    refine mp_get x hH (la12 hL hd) fg_sg_283 rfl dd_sg_countPromise_22 ?_
    refine mp_call x (wt_mv base) hG hB hl.1 (mp_invS (av := [.int ((sca V d t) 40 d)]) x mn_sg_touchesEachColumn mc_sg_touchesEachColumn (Or.inl ww_293) ww_294 ww_54 rfl dd_sg_countPromise_25) (kk_sg_touchesEachColumn ) (Nat.le_trans (Nat.le_of_ble_eq_true rfl) hfr) (Nat.le_trans (Nat.le_of_ble_eq_true rfl) hlo) (Nat.le_trans (Nat.le_of_ble_eq_true rfl) hce) (Nat.le_trans (Nat.le_of_ble_eq_true rfl) hsl) hH hS (fun v σa t0 H locs hp152 ht0 hvm hzz hH hS => ?_) (fun _ _ _ _ _ hz _ _ _ _ _ => by cases hz.1)
    obtain ⟨ho, hσ⟩ := hp152
    cases ho
    rw [hσ] at hH
    refine W.eq (g2 := F0 m 28 ls [.int (tec ((sca V d t) 40 d))]) rfl ?_
    refine lv_if_ne (tgt := 33) x.1 x.2.1 dd_sg_countPromise_28 (by decide) (fun c153 => ?_) (fun c153 => ?_)
    · refine lv_aload_n x.1 x.2.1 dd_sg_countPromise_33 rfl (lv_at hl 0 rfl) ?_
      refine mp_call x (wt_mv base) hG hB hl.1 (mp_invV (av := []) x hH (la12 hL hd) rfl rfl mn_ak_beginPhaseTwo mc_ak_beginPhaseTwo (Or.inr ⟨_, ww_587⟩) ww_589 ww_34 rfl dd_sg_countPromise_34) (kk_A_beginPhaseTwo hL hd) (Nat.le_trans (Nat.le_of_ble_eq_true rfl) hfr) (Nat.le_trans (Nat.le_of_ble_eq_true rfl) hlo) (Nat.le_trans (Nat.le_of_ble_eq_true rfl) hce) (Nat.le_trans (Nat.le_of_ble_eq_true rfl) hsl) hH hS (fun v σa t0 H locs hp154 ht0 hvm hzz hH hS => ?_) (fun _ _ _ _ _ hz _ _ _ _ _ => by cases hz.1)
      obtain ⟨ho, hL⟩ := hp154
      cases ho
      refine W.eq (g2 := F0 m 37 ls []) rfl ?_
      refine lv_aload_n x.1 x.2.1 dd_sg_countPromise_37 rfl (lv_at hl 1 rfl) ?_
      refine lv_aload_n x.1 x.2.1 dd_sg_countPromise_38 rfl (lv_at hl 2 rfl) ?_
      refine lv_iconst (v := nI 3) x.1 x.2.1 dd_sg_countPromise_39 (by decide +kernel) ?_
      refine lv_aload_n x.1 x.2.1 dd_sg_countPromise_40 rfl (lv_at hl 0 rfl) ?_
      refine mp_get x hH (la12 hL hd) fg_sg_289 rfl dd_sg_countPromise_41 ?_
      refine mp_call x (wt_mv base) hG hB hl.1 (mp_invV (av := [.ref (ad 9 d), .int (nI 3), .int ((sb2 (sca V d t) d) 37 d)]) x hH (la0 hL) rfl rfl mn_sg_sendToAll mc_sg_sendToAll (Or.inl ww_486) ww_488 ww_13 rfl dd_sg_countPromise_44) (kk_G_sendToAll (nc := nc) hL ⟨(sb2_o (by omega)).trans ((sca_o (by omega)).trans (hf)), by omega, (sb2_o (by omega)).trans ((sca_o (by omega)).trans (hn)), by omega, hpl⟩ hd ((sb2_o (by omega)).trans ((sca_o (by omega)).trans (hc))) (by omega)) (Nat.le_trans (Nat.le_of_ble_eq_true rfl) hfr) (Nat.le_trans (Nat.le_of_ble_eq_true rfl) hlo) (Nat.le_trans (Nat.le_of_ble_eq_true rfl) hce) (Nat.le_trans (Nat.le_of_ble_eq_true rfl) hsl) hH hS (fun v σa t0 H locs hp155 ht0 hvm hzz hH hS => ?_) (fun _ _ _ _ _ hz _ _ _ _ _ => by cases hz.1)
      obtain ⟨ho, hL⟩ := hp155
      cases ho
      refine W.eq (g2 := F0 m 47 ls [.int (nI 25)]) rfl ?_
      exact mp_ri x hr hlk (by decide) (by decide) hH hS (fun _ => ⟨(congrArg (fun z => Outcome.returned (some (.int z))) (by rw [scr, if_neg c150, if_neg c153])), by unfold scp; rw [if_neg c150, if_neg c153]; exact hL⟩) dd_sg_countPromise_47
    · refine lv_iconst (v := nI 0) x.1 x.2.1 dd_sg_countPromise_31 (by decide +kernel) ?_
      exact mp_ri x hr hlk (by decide) (by decide) hH hS (fun _ => ⟨(congrArg (fun z => Outcome.returned (some (.int z))) (by rw [scr, if_neg c150, if_pos c153])), by unfold scp; rw [if_neg c150, if_pos c153]; exact hL⟩) dd_sg_countPromise_32
  · refine lv_iconst (v := nI 0) x.1 x.2.1 dd_sg_countPromise_14 (by decide +kernel) ?_
    exact mp_ri x hr hlk (by decide) (by decide) hH hS (fun _ => ⟨(congrArg (fun z => Outcome.returned (some (.int z))) (by rw [scr, if_pos c150])), by unfold scp; rw [if_pos c150]; exact hL⟩) dd_sg_countPromise_15
set_option maxRecDepth 100000 in
set_option maxHeartbeats 4000000 in
theorem kk_G_countAcceptance {l : Launch} {D : va_G} {ar : Nat → ClassId} {base : Nat} {σ : mp_M} {ad : Nat → Nat → Nat} {rg : Nat → Bool} {pl : Nat → Nat} {V M : fV} {d t nc : Nat} (hL : Lay ar ad rg pl V M σ) (hd : dk rg d) (ht : t < 101) (hc : V 34 d = nI nc) (h12 : ¬ wts V d t (nI 2) = 0 → nc < 12) : CN l D ar base yy_sg_countAcceptance prog_1_method_32_code 3 (Option.none : Option Jvm.ClassFile.FieldType) [] 4 49 0 0 [.ref (ad 9 d), .ref (ad 4 t)] σ (fun o σ' _ => o = .returned none ∧ Lay ar ad rg pl (sac V d t nc) M σ') := by
  refine mp_in (Nat.le_of_ble_eq_true rfl) ?_
  intro p e R s m below meth c x hfr hlo hce hsl hr hlk hin hex hG hB ls H hH0 hH hS hl
  have hl : lv_has ls 3 [(0, .ref (ad 9 d)), (1, .ref (ad 4 t))] := hl
  refine lv_aload_n x.1 x.2.1 dd_sg_countAcceptance_0 rfl (lv_at hl 0 rfl) ?_
  refine mp_get x hH (la9 hL hd) fg_sg_72 rfl dd_sg_countAcceptance_1 ?_
  refine lv_astore_n (lv' := [(2, .ref (ad 12 d)), (0, .ref (ad 9 d)), (1, .ref (ad 4 t))]) x.1 x.2.1 dd_sg_countAcceptance_4 rfl hl (by decide) rfl (fun ls hl => ?_)
  refine lv_aload_n x.1 x.2.1 dd_sg_countAcceptance_5 rfl (lv_at hl 0 rfl) ?_
  refine lv_aload_n x.1 x.2.1 dd_sg_countAcceptance_6 rfl (lv_at hl 2 rfl) ?_
  refine lv_iconst (v := nI 2) x.1 x.2.1 dd_sg_countAcceptance_7 (by decide +kernel) ?_
  refine mp_call x (wt_mv base) hG hB hl.1 (mp_invV (av := [.ref (ad 4 t), .int (nI 2)]) x hH (la12 hL hd) rfl rfl mn_ak_waitsFor mc_ak_waitsFor (Or.inr ⟨_, ww_579⟩) ww_581 ww_32 rfl dd_sg_countAcceptance_8) (kk_A_waitsFor hL hd (Nat.lt_trans ht (by decide))) (Nat.le_trans (Nat.le_of_ble_eq_true rfl) hfr) (Nat.le_trans (Nat.le_of_ble_eq_true rfl) hlo) (Nat.le_trans (Nat.le_of_ble_eq_true rfl) hce) (Nat.le_trans (Nat.le_of_ble_eq_true rfl) hsl) hH hS (fun v σa t0 H locs hp156 ht0 hvm hzz hH hS => ?_) (fun _ _ _ _ _ hz _ _ _ _ _ => by cases hz.1)
  obtain ⟨ho, hσ⟩ := hp156
  cases ho
  rw [hσ] at hH
  refine W.eq (g2 := F0 m 11 ls [.int (wts V d t (nI 2))]) rfl ?_
  refine lv_if_ne (tgt := 15) x.1 x.2.1 dd_sg_countAcceptance_11 (by decide) (fun c157 => ?_) (fun c157 => ?_)
  · have hc2 := h12 c157
    refine lv_aload_n x.1 x.2.1 dd_sg_countAcceptance_15 rfl (lv_at hl 0 rfl) ?_
    refine lv_aload_n x.1 x.2.1 dd_sg_countAcceptance_16 rfl (lv_at hl 2 rfl) ?_
    refine mp_call x (wt_mv base) hG hB hl.1 (mp_invV (av := [.ref (ad 4 t)]) x hH (la12 hL hd) rfl rfl mn_ak_countAnswer mc_ak_countAnswer (Or.inr ⟨_, ww_583⟩) ww_585 ww_33 rfl dd_sg_countAcceptance_17) (kk_A_countAnswer hL hd (Nat.lt_trans ht (by decide))) (Nat.le_trans (Nat.le_of_ble_eq_true rfl) hfr) (Nat.le_trans (Nat.le_of_ble_eq_true rfl) hlo) (Nat.le_trans (Nat.le_of_ble_eq_true rfl) hce) (Nat.le_trans (Nat.le_of_ble_eq_true rfl) hsl) hH hS (fun v σa t0 H locs hp158 ht0 hvm hzz hH hS => ?_) (fun _ _ _ _ _ hz _ _ _ _ _ => by cases hz.1)
    obtain ⟨ho, hL⟩ := hp158
    cases ho
    refine W.eq (g2 := F0 m 20 ls []) rfl ?_
    refine lv_aload_n x.1 x.2.1 dd_sg_countAcceptance_20 rfl (lv_at hl 0 rfl) ?_
    refine mp_get x hH (la12 hL hd) fg_sg_283 rfl dd_sg_countAcceptance_21 ?_
    refine mp_call x (wt_mv base) hG hB hl.1 (mp_invS (av := [.int ((sca V d t) 40 d)]) x mn_sg_holdsWholeColumn mc_sg_holdsWholeColumn (Or.inl ww_297) ww_298 ww_54 rfl dd_sg_countAcceptance_24) (kk_sg_holdsWholeColumn ) (Nat.le_trans (Nat.le_of_ble_eq_true rfl) hfr) (Nat.le_trans (Nat.le_of_ble_eq_true rfl) hlo) (Nat.le_trans (Nat.le_of_ble_eq_true rfl) hce) (Nat.le_trans (Nat.le_of_ble_eq_true rfl) hsl) hH hS (fun v σa t0 H locs hp159 ht0 hvm hzz hH hS => ?_) (fun _ _ _ _ _ hz _ _ _ _ _ => by cases hz.1)
    obtain ⟨ho, hσ⟩ := hp159
    cases ho
    rw [hσ] at hH
    refine W.eq (g2 := F0 m 27 ls [.int (hwc ((sca V d t) 40 d))]) rfl ?_
    refine lv_if_eq (tgt := 38) x.1 x.2.1 dd_sg_countAcceptance_27 (by decide) (fun c160 => ?_) (fun c160 => ?_)
    · exact mp_rv x hr hlk (by decide) (by decide) hH hS (fun _ => ⟨rfl, by unfold sac; rw [if_neg c157, if_pos c160]; exact hL⟩) dd_sg_countAcceptance_38
    · refine lv_aload_n x.1 x.2.1 dd_sg_countAcceptance_30 rfl (lv_at hl 1 rfl) ?_
      refine lv_aload_n x.1 x.2.1 dd_sg_countAcceptance_31 rfl (lv_at hl 0 rfl) ?_
      refine mp_get x hH (la12 hL hd) fg_sg_289 rfl dd_sg_countAcceptance_32 ?_
      refine mp_call x (wt_mv base) hG hB hl.1 (mp_invV (av := [.int ((sca V d t) 37 d)]) x hH (la9 hL hd) rfl rfl mn_dk_learn mc_dk_learn (Or.inr ⟨_, ww_594⟩) ww_596 ww_35 rfl dd_sg_countAcceptance_35) (kk_D_learn (nc := nc) hL hd ((sca_o (by omega)).trans (hc)) (by omega)) (Nat.le_trans (Nat.le_of_ble_eq_true rfl) hfr) (Nat.le_trans (Nat.le_of_ble_eq_true rfl) hlo) (Nat.le_trans (Nat.le_of_ble_eq_true rfl) hce) (Nat.le_trans (Nat.le_of_ble_eq_true rfl) hsl) hH hS (fun v σa t0 H locs hp161 ht0 hvm hzz hH hS => ?_) (fun _ _ _ _ _ hz _ _ _ _ _ => by cases hz.1)
      obtain ⟨ho, hL⟩ := hp161
      cases ho
      refine W.eq (g2 := F0 m 38 ls []) rfl ?_
      exact mp_rv x hr hlk (by decide) (by decide) hH hS (fun _ => ⟨rfl, by unfold sac; rw [if_neg c157, if_neg c160]; exact hL⟩) dd_sg_countAcceptance_38
  · exact mp_rv x hr hlk (by decide) (by decide) hH hS (fun _ => ⟨rfl, by unfold sac; rw [if_pos c157]; exact hL⟩) dd_sg_countAcceptance_14
