/-! THE LAW'S OWN METHODS: each calls one method, catches what it throws, and writes down the answer. -/
section KOU
variable {p : Program} {l : Launch} {e : Env} {R : Room} {s : State} {m : MethodId} {args : Array Value} {below : List Frame} {meth : Method} {c : Code} {H : Heap} {locs : List Loc} {cells slots : Nat} {Q : State → Prop}
variable {cc : ByteArray} {nL pc : Nat} {ls : Array Slot} {rest : List Value} {D : va_G} {ar : Nat → ClassId} {base : Nat} {σ : mp_M} {H0 : Heap} {own : String} {ad : Nat → Nat → Nat} {rg : Nat → Bool} {pl : Nat → Nat} {V M : fV}
theorem ko_st (x : XX D ar p s m args c cc nL own) (hH : HH D base σ H) (hS : va_S (mp_A base) H0 H locs) (hL : Lay ar ad rg pl V M σ) {v : Int32} {z : Int64} (hz : v.toInt64 = z) (hdg : decode cc pc = .ok (.lastore, 1))
    (kk : ∀ (σ1 : mp_M), Lay ar ad rg pl (mu V 62 0 v) M σ1 → ∀ (H1 : Heap) (locs1 : List Loc), HH D base σ1 H1 → va_S (mp_A base) H0 H1 locs1 → W p l e R s m args below meth c H1 locs1 cells slots Q (F0 m (pc + 1) ls rest)) : W p l e R s m args below meth c H locs cells slots Q (F0 m pc ls (.long z :: .int (nI 0) :: .ref (ad 15 0) :: rest)) := by
  refine mp_last x hH hS 1 (la15 hL) rfl (vp_in_nI (by decide) (by decide)) hdg (fun H1 locs1 h1 h2 => kk _ (lay_mu hL (kd := 15) (i := 0) LvO ?_ (fun q hq => mp_un _ _ hq) rfl rfl) H1 locs1 h1 h2)
  rw [mp_us, nI_clamp (by decide)]
  show some (.inl (ar 1, 1, .inr (.inl (vp_updL (fun q => (V 62 q).toInt64) 0 z))) : va_E) = some (.inl (ar 1, 1, .inr (.inl (fun q => (mu V 62 0 v 62 q).toInt64))))
  rw [show vp_updL (fun q => (V 62 q).toInt64) 0 z = fun q => (mu V 62 0 v 62 q).toInt64 from funext fun q => by
    unfold vp_updL
    by_cases hq : q = 0
    · subst hq; rw [if_pos rfl, mu_s, hz]
    · rw [if_neg hq, mu_i hq]]
theorem ko_ld (x : XX D ar p s m args c cc nL own) (hH : HH D base σ H) (hL : Lay ar ad rg pl V M σ) {v : Int32} (hv : V 62 0 = v) (hdg : decode cc pc = .ok (.laload, 1))
    (kk : W p l e R s m args below meth c H locs cells slots Q (F0 m (pc + 1) ls (.long v.toInt64 :: rest))) : W p l e R s m args below meth c H locs cells slots Q (F0 m pc ls (.int (nI 0) :: .ref (ad 15 0) :: rest)) :=
  mp_lald x hH 1 (la15 hL) rfl (vp_in_nI (by decide) (by decide)) hdg (by rw [nI_clamp (by decide), hv]; exact kk)
end KOU
set_option maxRecDepth 100000 in
set_option maxHeartbeats 4000000 in
theorem kk_W_ask {l : Launch} {D : va_G} {ar : Nat → ClassId} {base : Nat} {σ : mp_M} {ad : Nat → Nat → Nat} {rg : Nat → Bool} {pl pl' : Nat → Nat} {V V' M : fV} {k : Nat} {r k0 k1 k2 : Int32} (hL : Lay ar ad rg pl V M σ) (hC : CN l D ar base yy_sg_ask prog_1_method_3_code 6 (Option.some Jvm.ClassFile.FieldType.int) [] 7 96 6 36 (.ref (ad 0 0) :: [.int k0, .int k1, .int k2]) σ (fun o σ' t => CO k r o t ∧ Lay ar ad rg pl' V' M σ')) (hkm : k ≤ 2) : CN l D ar base yy_la_ask method_4_code 6 (Option.some Jvm.ClassFile.FieldType.int) [(0, 12, 15, 13), (0, 12, 19, 15)] 8 150 6 36 [.ref (ad 0 0), .int k0, .int k1, .int k2, .ref (ad 15 0)] σ (fun o σ' _ => o = .returned (some (.int (nI k))) ∧ ∃ w, (k = 0 → w = r) ∧ Lay ar ad rg pl' (mu V' 62 0 w) M σ') := by
  refine mp_in (Nat.le_of_ble_eq_true rfl) ?_
  intro p e R s m below meth c x hfr hlo hce hsl hr hlk hin hex hG hB ls H hH0 hH hS hl
  have hl : lv_has ls 6 [(0, .ref (ad 0 0)), (1, .int k0), (2, .int k1), (3, .int k2), (4, .ref (ad 15 0))] := hl
  refine lv_aload x.1 x.2.1 dd_la_ask_0 (lv_at hl 4 rfl) ?_
  refine lv_iconst (v := nI 0) x.1 x.2.1 dd_la_ask_2 (by decide +kernel) ?_
  refine lv_aload_n x.1 x.2.1 dd_la_ask_3 rfl (lv_at hl 0 rfl) ?_
  refine lv_iload_n x.1 x.2.1 dd_la_ask_4 rfl (lv_at hl 1 rfl) ?_
  refine lv_iload_n x.1 x.2.1 dd_la_ask_5 rfl (lv_at hl 2 rfl) ?_
  refine lv_iload_n x.1 x.2.1 dd_la_ask_6 rfl (lv_at hl 3 rfl) ?_
  refine mp_call x (wt_mv base) hG hB hl.1 (mp_invV (av := [.int k0, .int k1, .int k2]) x hH (la0 hL) rfl rfl mn_sg_ask mc_sg_ask (Or.inl ww_421) ww_422 ww_423 rfl dd_la_ask_7) hC (Nat.le_trans (Nat.le_of_ble_eq_true rfl) hfr) (Nat.le_trans (Nat.le_of_ble_eq_true rfl) hlo) (Nat.le_trans (Nat.le_of_ble_eq_true rfl) hce) (Nat.le_trans (Nat.le_of_ble_eq_true rfl) hsl) hH hS (fun v σa t0 H locs hp ht0 hvm hzz hH hS => ?_) (fun a σa t0 H locs hp ht0 hvm hzz hH hS => ?_)
  · obtain ⟨hco, hL⟩ := hp
    rcases hco with ⟨hk0, ho⟩ | ⟨-, a, ho, -⟩ | ⟨-, a, ho, -⟩
    · cases ho
      subst hk0
      refine W.eq (g2 := F0 m 10 ls [.int r, .int (nI 0), .ref (ad 15 0)]) rfl ?_
      refine lv_i2l (v := r.toInt64) x.1 x.2.1 dd_la_ask_10 rfl ?_
      refine ko_st (v := r) x hH hS hL rfl dd_la_ask_11 (fun σ hL H locs hH hS => ?_)
      refine lv_goto (tgt := 23) x.1 x.2.1 dd_la_ask_12 (by decide) ?_
      refine lv_iconst (v := nI 0) x.1 x.2.1 dd_la_ask_23 (by decide +kernel) ?_
      exact mp_ri x hr hlk (by decide) (by decide) hH hS (fun _ => ⟨rfl, _, fun _ => rfl, hL⟩) dd_la_ask_24
    · cases ho
    · cases ho
  · obtain ⟨hco, hL⟩ := hp
    rcases hco with ⟨-, ho⟩ | ⟨hk1, a', ho, hT⟩ | ⟨hk2, a', ho, hT⟩
    · cases ho
    · cases ho
      subst hk1
      obtain ⟨cell, t1, t2, t3⟩ := hT
      rw [ht0] at t1
      rw [hvm.findClass] at t3
      refine ct_first x hex (by decide) (by decide) (by decide) ww_303 ww_314 t1 t2 t3 ?_
      refine lv_astore (lv' := [(5, .ref a), (0, .ref (ad 0 0)), (1, .int k0), (2, .int k1), (3, .int k2), (4, .ref (ad 15 0))]) x.1 x.2.1 dd_la_ask_15 hl (by decide) rfl (fun ls hl => ?_)
      refine lv_iconst (v := nI 1) x.1 x.2.1 dd_la_ask_17 (by decide +kernel) ?_
      exact mp_ri x hr hlk (by decide) (by decide) hH hS (fun _ => ⟨rfl, V' 62 0, fun z => absurd z (by decide), by rw [mu_same]; exact hL⟩) dd_la_ask_18
    · cases ho
      subst hk2
      obtain ⟨cell, t1, t2, t3⟩ := hT
      rw [ht0] at t1
      rw [hvm.findClass] at t3
      refine ct_second x hex (by decide) (by decide) (by decide) (by decide) (by decide) (by decide) ww_303 hG.2.2.2.2.2.1 ww_304 ww_385 t1 t2 t3 ?_
      refine lv_astore (lv' := [(5, .ref a), (0, .ref (ad 0 0)), (1, .int k0), (2, .int k1), (3, .int k2), (4, .ref (ad 15 0))]) x.1 x.2.1 dd_la_ask_19 hl (by decide) rfl (fun ls hl => ?_)
      refine lv_iconst (v := nI 2) x.1 x.2.1 dd_la_ask_21 (by decide +kernel) ?_
      exact mp_ri x hr hlk (by decide) (by decide) hH hS (fun _ => ⟨rfl, V' 62 0, fun z => absurd z (by decide), by rw [mu_same]; exact hL⟩) dd_la_ask_22
set_option maxRecDepth 100000 in
set_option maxHeartbeats 4000000 in
theorem kk_W_retry {l : Launch} {D : va_G} {ar : Nat → ClassId} {base : Nat} {σ : mp_M} {ad : Nat → Nat → Nat} {rg : Nat → Bool} {pl pl' : Nat → Nat} {V V' M : fV} {k : Nat} {r k0 k1 : Int32} (hL : Lay ar ad rg pl V M σ) (hC : CN l D ar base yy_sg_retry prog_1_method_4_code 4 (Option.some Jvm.ClassFile.FieldType.int) [] 7 96 6 36 (.ref (ad 0 0) :: [.int k0, .int k1]) σ (fun o σ' t => CO k r o t ∧ Lay ar ad rg pl' V' M σ')) (hkm : k ≤ 2) : CN l D ar base yy_la_retry method_5_code 5 (Option.some Jvm.ClassFile.FieldType.int) [(0, 10, 13, 13), (0, 10, 17, 15)] 8 150 6 36 [.ref (ad 0 0), .int k0, .int k1, .ref (ad 15 0)] σ (fun o σ' _ => o = .returned (some (.int (nI k))) ∧ ∃ w, (k = 0 → w = r) ∧ Lay ar ad rg pl' (mu V' 62 0 w) M σ') := by
  refine mp_in (Nat.le_of_ble_eq_true rfl) ?_
  intro p e R s m below meth c x hfr hlo hce hsl hr hlk hin hex hG hB ls H hH0 hH hS hl
  have hl : lv_has ls 5 [(0, .ref (ad 0 0)), (1, .int k0), (2, .int k1), (3, .ref (ad 15 0))] := hl
  refine lv_aload_n x.1 x.2.1 dd_la_retry_0 rfl (lv_at hl 3 rfl) ?_
  refine lv_iconst (v := nI 0) x.1 x.2.1 dd_la_retry_1 (by decide +kernel) ?_
  refine lv_aload_n x.1 x.2.1 dd_la_retry_2 rfl (lv_at hl 0 rfl) ?_
  refine lv_iload_n x.1 x.2.1 dd_la_retry_3 rfl (lv_at hl 1 rfl) ?_
  refine lv_iload_n x.1 x.2.1 dd_la_retry_4 rfl (lv_at hl 2 rfl) ?_
  refine mp_call x (wt_mv base) hG hB hl.1 (mp_invV (av := [.int k0, .int k1]) x hH (la0 hL) rfl rfl mn_sg_retry mc_sg_retry (Or.inl ww_513) ww_514 ww_515 rfl dd_la_retry_5) hC (Nat.le_trans (Nat.le_of_ble_eq_true rfl) hfr) (Nat.le_trans (Nat.le_of_ble_eq_true rfl) hlo) (Nat.le_trans (Nat.le_of_ble_eq_true rfl) hce) (Nat.le_trans (Nat.le_of_ble_eq_true rfl) hsl) hH hS (fun v σa t0 H locs hp ht0 hvm hzz hH hS => ?_) (fun a σa t0 H locs hp ht0 hvm hzz hH hS => ?_)
  · obtain ⟨hco, hL⟩ := hp
    rcases hco with ⟨hk0, ho⟩ | ⟨-, a, ho, -⟩ | ⟨-, a, ho, -⟩
    · cases ho
      subst hk0
      refine W.eq (g2 := F0 m 8 ls [.int r, .int (nI 0), .ref (ad 15 0)]) rfl ?_
      refine lv_i2l (v := r.toInt64) x.1 x.2.1 dd_la_retry_8 rfl ?_
      refine ko_st (v := r) x hH hS hL rfl dd_la_retry_9 (fun σ hL H locs hH hS => ?_)
      refine lv_goto (tgt := 21) x.1 x.2.1 dd_la_retry_10 (by decide) ?_
      refine lv_iconst (v := nI 0) x.1 x.2.1 dd_la_retry_21 (by decide +kernel) ?_
      exact mp_ri x hr hlk (by decide) (by decide) hH hS (fun _ => ⟨rfl, _, fun _ => rfl, hL⟩) dd_la_retry_22
    · cases ho
    · cases ho
  · obtain ⟨hco, hL⟩ := hp
    rcases hco with ⟨-, ho⟩ | ⟨hk1, a', ho, hT⟩ | ⟨hk2, a', ho, hT⟩
    · cases ho
    · cases ho
      subst hk1
      obtain ⟨cell, t1, t2, t3⟩ := hT
      rw [ht0] at t1
      rw [hvm.findClass] at t3
      refine ct_first x hex (by decide) (by decide) (by decide) ww_303 ww_314 t1 t2 t3 ?_
      refine lv_astore (lv' := [(4, .ref a), (0, .ref (ad 0 0)), (1, .int k0), (2, .int k1), (3, .ref (ad 15 0))]) x.1 x.2.1 dd_la_retry_13 hl (by decide) rfl (fun ls hl => ?_)
      refine lv_iconst (v := nI 1) x.1 x.2.1 dd_la_retry_15 (by decide +kernel) ?_
      exact mp_ri x hr hlk (by decide) (by decide) hH hS (fun _ => ⟨rfl, V' 62 0, fun z => absurd z (by decide), by rw [mu_same]; exact hL⟩) dd_la_retry_16
    · cases ho
      subst hk2
      obtain ⟨cell, t1, t2, t3⟩ := hT
      rw [ht0] at t1
      rw [hvm.findClass] at t3
      refine ct_second x hex (by decide) (by decide) (by decide) (by decide) (by decide) (by decide) ww_303 hG.2.2.2.2.2.1 ww_304 ww_385 t1 t2 t3 ?_
      refine lv_astore (lv' := [(4, .ref a), (0, .ref (ad 0 0)), (1, .int k0), (2, .int k1), (3, .ref (ad 15 0))]) x.1 x.2.1 dd_la_retry_17 hl (by decide) rfl (fun ls hl => ?_)
      refine lv_iconst (v := nI 2) x.1 x.2.1 dd_la_retry_19 (by decide +kernel) ?_
      exact mp_ri x hr hlk (by decide) (by decide) hH hS (fun _ => ⟨rfl, V' 62 0, fun z => absurd z (by decide), by rw [mu_same]; exact hL⟩) dd_la_retry_20
set_option maxRecDepth 100000 in
set_option maxHeartbeats 4000000 in
theorem kk_W_deliver {l : Launch} {D : va_G} {ar : Nat → ClassId} {base : Nat} {σ : mp_M} {ad : Nat → Nat → Nat} {rg : Nat → Bool} {pl pl' : Nat → Nat} {V V' M : fV} {k : Nat} {r k0 : Int32} (hL : Lay ar ad rg pl V M σ) (hC : CN l D ar base yy_sg_deliver prog_1_method_5_code 2 (Option.some Jvm.ClassFile.FieldType.int) [] 7 96 6 36 (.ref (ad 0 0) :: [.int k0]) σ (fun o σ' t => CO k r o t ∧ Lay ar ad rg pl' V' M σ')) (hkm : k ≤ 1) : CN l D ar base yy_la_deliver method_6_code 4 (Option.some Jvm.ClassFile.FieldType.int) [(0, 9, 12, 13)] 8 150 6 36 [.ref (ad 0 0), .int k0, .ref (ad 15 0)] σ (fun o σ' _ => o = .returned (some (.int (nI k))) ∧ ∃ w, (k = 0 → w = r) ∧ Lay ar ad rg pl' (mu V' 62 0 w) M σ') := by
  refine mp_in (Nat.le_of_ble_eq_true rfl) ?_
  intro p e R s m below meth c x hfr hlo hce hsl hr hlk hin hex hG hB ls H hH0 hH hS hl
  have hl : lv_has ls 4 [(0, .ref (ad 0 0)), (1, .int k0), (2, .ref (ad 15 0))] := hl
  refine lv_aload_n x.1 x.2.1 dd_la_deliver_0 rfl (lv_at hl 2 rfl) ?_
  refine lv_iconst (v := nI 0) x.1 x.2.1 dd_la_deliver_1 (by decide +kernel) ?_
  refine lv_aload_n x.1 x.2.1 dd_la_deliver_2 rfl (lv_at hl 0 rfl) ?_
  refine lv_iload_n x.1 x.2.1 dd_la_deliver_3 rfl (lv_at hl 1 rfl) ?_
  refine mp_call x (wt_mv base) hG hB hl.1 (mp_invV (av := [.int k0]) x hH (la0 hL) rfl rfl mn_sg_deliver mc_sg_deliver (Or.inl ww_529) ww_530 ww_531 rfl dd_la_deliver_4) hC (Nat.le_trans (Nat.le_of_ble_eq_true rfl) hfr) (Nat.le_trans (Nat.le_of_ble_eq_true rfl) hlo) (Nat.le_trans (Nat.le_of_ble_eq_true rfl) hce) (Nat.le_trans (Nat.le_of_ble_eq_true rfl) hsl) hH hS (fun v σa t0 H locs hp ht0 hvm hzz hH hS => ?_) (fun a σa t0 H locs hp ht0 hvm hzz hH hS => ?_)
  · obtain ⟨hco, hL⟩ := hp
    rcases hco with ⟨hk0, ho⟩ | ⟨-, a, ho, -⟩ | ⟨-, a, ho, -⟩
    · cases ho
      subst hk0
      refine W.eq (g2 := F0 m 7 ls [.int r, .int (nI 0), .ref (ad 15 0)]) rfl ?_
      refine lv_i2l (v := r.toInt64) x.1 x.2.1 dd_la_deliver_7 rfl ?_
      refine ko_st (v := r) x hH hS hL rfl dd_la_deliver_8 (fun σ hL H locs hH hS => ?_)
      refine lv_goto (tgt := 15) x.1 x.2.1 dd_la_deliver_9 (by decide) ?_
      refine lv_iconst (v := nI 0) x.1 x.2.1 dd_la_deliver_15 (by decide +kernel) ?_
      exact mp_ri x hr hlk (by decide) (by decide) hH hS (fun _ => ⟨rfl, _, fun _ => rfl, hL⟩) dd_la_deliver_16
    · cases ho
    · cases ho
  · obtain ⟨hco, hL⟩ := hp
    rcases hco with ⟨-, ho⟩ | ⟨hk1, a', ho, hT⟩ | ⟨hk2, a', ho, hT⟩
    · cases ho
    · cases ho
      subst hk1
      obtain ⟨cell, t1, t2, t3⟩ := hT
      rw [ht0] at t1
      rw [hvm.findClass] at t3
      refine ct_first x hex (by decide) (by decide) (by decide) ww_303 ww_314 t1 t2 t3 ?_
      refine lv_astore_n (lv' := [(3, .ref a), (0, .ref (ad 0 0)), (1, .int k0), (2, .ref (ad 15 0))]) x.1 x.2.1 dd_la_deliver_12 rfl hl (by decide) rfl (fun ls hl => ?_)
      refine lv_iconst (v := nI 1) x.1 x.2.1 dd_la_deliver_13 (by decide +kernel) ?_
      exact mp_ri x hr hlk (by decide) (by decide) hH hS (fun _ => ⟨rfl, V' 62 0, fun z => absurd z (by decide), by rw [mu_same]; exact hL⟩) dd_la_deliver_14
    · exact absurd hk2 (by omega)
set_option maxRecDepth 100000 in
set_option maxHeartbeats 4000000 in
theorem kk_W_drop {l : Launch} {D : va_G} {ar : Nat → ClassId} {base : Nat} {σ : mp_M} {ad : Nat → Nat → Nat} {rg : Nat → Bool} {pl pl' : Nat → Nat} {V V' M : fV} {k : Nat} {r k0 : Int32} (hL : Lay ar ad rg pl V M σ) (hC : CN l D ar base yy_sg_drop prog_1_method_6_code 2 (Option.some Jvm.ClassFile.FieldType.int) [] 7 96 6 36 (.ref (ad 0 0) :: [.int k0]) σ (fun o σ' t => CO k r o t ∧ Lay ar ad rg pl' V' M σ')) (hkm : k ≤ 1) : CN l D ar base yy_la_drop method_7_code 4 (Option.some Jvm.ClassFile.FieldType.int) [(0, 9, 12, 13)] 8 150 6 36 [.ref (ad 0 0), .int k0, .ref (ad 15 0)] σ (fun o σ' _ => o = .returned (some (.int (nI k))) ∧ ∃ w, (k = 0 → w = r) ∧ Lay ar ad rg pl' (mu V' 62 0 w) M σ') := by
  refine mp_in (Nat.le_of_ble_eq_true rfl) ?_
  intro p e R s m below meth c x hfr hlo hce hsl hr hlk hin hex hG hB ls H hH0 hH hS hl
  have hl : lv_has ls 4 [(0, .ref (ad 0 0)), (1, .int k0), (2, .ref (ad 15 0))] := hl
  refine lv_aload_n x.1 x.2.1 dd_la_drop_0 rfl (lv_at hl 2 rfl) ?_
  refine lv_iconst (v := nI 0) x.1 x.2.1 dd_la_drop_1 (by decide +kernel) ?_
  refine lv_aload_n x.1 x.2.1 dd_la_drop_2 rfl (lv_at hl 0 rfl) ?_
  refine lv_iload_n x.1 x.2.1 dd_la_drop_3 rfl (lv_at hl 1 rfl) ?_
  refine mp_call x (wt_mv base) hG hB hl.1 (mp_invV (av := [.int k0]) x hH (la0 hL) rfl rfl mn_sg_drop mc_sg_drop (Or.inl ww_608) ww_609 ww_610 rfl dd_la_drop_4) hC (Nat.le_trans (Nat.le_of_ble_eq_true rfl) hfr) (Nat.le_trans (Nat.le_of_ble_eq_true rfl) hlo) (Nat.le_trans (Nat.le_of_ble_eq_true rfl) hce) (Nat.le_trans (Nat.le_of_ble_eq_true rfl) hsl) hH hS (fun v σa t0 H locs hp ht0 hvm hzz hH hS => ?_) (fun a σa t0 H locs hp ht0 hvm hzz hH hS => ?_)
  · obtain ⟨hco, hL⟩ := hp
    rcases hco with ⟨hk0, ho⟩ | ⟨-, a, ho, -⟩ | ⟨-, a, ho, -⟩
    · cases ho
      subst hk0
      refine W.eq (g2 := F0 m 7 ls [.int r, .int (nI 0), .ref (ad 15 0)]) rfl ?_
      refine lv_i2l (v := r.toInt64) x.1 x.2.1 dd_la_drop_7 rfl ?_
      refine ko_st (v := r) x hH hS hL rfl dd_la_drop_8 (fun σ hL H locs hH hS => ?_)
      refine lv_goto (tgt := 15) x.1 x.2.1 dd_la_drop_9 (by decide) ?_
      refine lv_iconst (v := nI 0) x.1 x.2.1 dd_la_drop_15 (by decide +kernel) ?_
      exact mp_ri x hr hlk (by decide) (by decide) hH hS (fun _ => ⟨rfl, _, fun _ => rfl, hL⟩) dd_la_drop_16
    · cases ho
    · cases ho
  · obtain ⟨hco, hL⟩ := hp
    rcases hco with ⟨-, ho⟩ | ⟨hk1, a', ho, hT⟩ | ⟨hk2, a', ho, hT⟩
    · cases ho
    · cases ho
      subst hk1
      obtain ⟨cell, t1, t2, t3⟩ := hT
      rw [ht0] at t1
      rw [hvm.findClass] at t3
      refine ct_first x hex (by decide) (by decide) (by decide) ww_303 ww_314 t1 t2 t3 ?_
      refine lv_astore_n (lv' := [(3, .ref a), (0, .ref (ad 0 0)), (1, .int k0), (2, .ref (ad 15 0))]) x.1 x.2.1 dd_la_drop_12 rfl hl (by decide) rfl (fun ls hl => ?_)
      refine lv_iconst (v := nI 1) x.1 x.2.1 dd_la_drop_13 (by decide +kernel) ?_
      exact mp_ri x hr hlk (by decide) (by decide) hH hS (fun _ => ⟨rfl, V' 62 0, fun z => absurd z (by decide), by rw [mu_same]; exact hL⟩) dd_la_drop_14
    · exact absurd hk2 (by omega)
set_option maxRecDepth 100000 in
set_option maxHeartbeats 4000000 in
theorem kk_W_copy {l : Launch} {D : va_G} {ar : Nat → ClassId} {base : Nat} {σ : mp_M} {ad : Nat → Nat → Nat} {rg : Nat → Bool} {pl pl' : Nat → Nat} {V V' M : fV} {k : Nat} {r k0 : Int32} (hL : Lay ar ad rg pl V M σ) (hC : CN l D ar base yy_sg_copy prog_1_method_7_code 2 (Option.some Jvm.ClassFile.FieldType.boolean) [] 7 96 6 36 (.ref (ad 0 0) :: [.int k0]) σ (fun o σ' t => CO k r o t ∧ Lay ar ad rg pl' V' M σ')) (hkm : k ≤ 1) (hbz : r = nI 0 ∨ r = nI 1) : CN l D ar base yy_la_copy method_8_code 4 (Option.some Jvm.ClassFile.FieldType.int) [(0, 16, 19, 13)] 8 150 6 36 [.ref (ad 0 0), .int k0, .ref (ad 15 0)] σ (fun o σ' _ => o = .returned (some (.int (nI k))) ∧ ∃ w, (k = 0 → w = r) ∧ Lay ar ad rg pl' (mu V' 62 0 w) M σ') := by
  refine mp_in (Nat.le_of_ble_eq_true rfl) ?_
  intro p e R s m below meth c x hfr hlo hce hsl hr hlk hin hex hG hB ls H hH0 hH hS hl
  have hl : lv_has ls 4 [(0, .ref (ad 0 0)), (1, .int k0), (2, .ref (ad 15 0))] := hl
  refine lv_aload_n x.1 x.2.1 dd_la_copy_0 rfl (lv_at hl 2 rfl) ?_
  refine lv_iconst (v := nI 0) x.1 x.2.1 dd_la_copy_1 (by decide +kernel) ?_
  refine lv_aload_n x.1 x.2.1 dd_la_copy_2 rfl (lv_at hl 0 rfl) ?_
  refine lv_iload_n x.1 x.2.1 dd_la_copy_3 rfl (lv_at hl 1 rfl) ?_
  refine mp_call x (wt_mv base) hG hB hl.1 (mp_invV (av := [.int k0]) x hH (la0 hL) rfl rfl mn_sg_copy mc_sg_copy (Or.inl ww_615) ww_616 ww_617 rfl dd_la_copy_4) hC (Nat.le_trans (Nat.le_of_ble_eq_true rfl) hfr) (Nat.le_trans (Nat.le_of_ble_eq_true rfl) hlo) (Nat.le_trans (Nat.le_of_ble_eq_true rfl) hce) (Nat.le_trans (Nat.le_of_ble_eq_true rfl) hsl) hH hS (fun v σa t0 H locs hp ht0 hvm hzz hH hS => ?_) (fun a σa t0 H locs hp ht0 hvm hzz hH hS => ?_)
  · obtain ⟨hco, hL⟩ := hp
    rcases hco with ⟨hk0, ho⟩ | ⟨-, a, ho, -⟩ | ⟨-, a, ho, -⟩
    · cases ho
      subst hk0
      refine W.eq (g2 := F0 m 7 ls [.int r, .int (nI 0), .ref (ad 15 0)]) rfl ?_
      rcases hbz with rfl | rfl
      · skip
        refine lv_if_eq (tgt := 14) x.1 x.2.1 dd_la_copy_7 (by decide) (fun c1 => ?_) (fun c1 => absurd (by decide +kernel) c1)
        refine lv_lconst (v := 0) x.1 x.2.1 dd_la_copy_14 (by decide +kernel) ?_
        refine ko_st (v := nI 0) x hH hS hL (by decide +kernel) dd_la_copy_15 (fun σ hL H locs hH hS => ?_)
        refine lv_goto (tgt := 22) x.1 x.2.1 dd_la_copy_16 (by decide) ?_
        refine lv_iconst (v := nI 0) x.1 x.2.1 dd_la_copy_22 (by decide +kernel) ?_
        exact mp_ri x hr hlk (by decide) (by decide) hH hS (fun _ => ⟨rfl, _, fun _ => rfl, hL⟩) dd_la_copy_23
      · skip
        refine lv_if_eq (tgt := 14) x.1 x.2.1 dd_la_copy_7 (by decide) (fun c2 => absurd c2 (by decide +kernel)) (fun c2 => ?_)
        refine lv_lconst (v := 1) x.1 x.2.1 dd_la_copy_10 (by decide +kernel) ?_
        refine lv_goto (tgt := 15) x.1 x.2.1 dd_la_copy_11 (by decide) ?_
        refine ko_st (v := nI 1) x hH hS hL (by decide +kernel) dd_la_copy_15 (fun σ hL H locs hH hS => ?_)
        refine lv_goto (tgt := 22) x.1 x.2.1 dd_la_copy_16 (by decide) ?_
        refine lv_iconst (v := nI 0) x.1 x.2.1 dd_la_copy_22 (by decide +kernel) ?_
        exact mp_ri x hr hlk (by decide) (by decide) hH hS (fun _ => ⟨rfl, _, fun _ => rfl, hL⟩) dd_la_copy_23
    · cases ho
    · cases ho
  · obtain ⟨hco, hL⟩ := hp
    rcases hco with ⟨-, ho⟩ | ⟨hk1, a', ho, hT⟩ | ⟨hk2, a', ho, hT⟩
    · cases ho
    · cases ho
      subst hk1
      obtain ⟨cell, t1, t2, t3⟩ := hT
      rw [ht0] at t1
      rw [hvm.findClass] at t3
      refine ct_first x hex (by decide) (by decide) (by decide) ww_303 ww_314 t1 t2 t3 ?_
      refine lv_astore_n (lv' := [(3, .ref a), (0, .ref (ad 0 0)), (1, .int k0), (2, .ref (ad 15 0))]) x.1 x.2.1 dd_la_copy_19 rfl hl (by decide) rfl (fun ls hl => ?_)
      refine lv_iconst (v := nI 1) x.1 x.2.1 dd_la_copy_20 (by decide +kernel) ?_
      exact mp_ri x hr hlk (by decide) (by decide) hH hS (fun _ => ⟨rfl, V' 62 0, fun z => absurd z (by decide), by rw [mu_same]; exact hL⟩) dd_la_copy_21
    · exact absurd hk2 (by omega)
set_option maxRecDepth 100000 in
set_option maxHeartbeats 4000000 in
theorem kk_W_deliverAll {l : Launch} {D : va_G} {ar : Nat → ClassId} {base : Nat} {σ : mp_M} {ad : Nat → Nat → Nat} {rg : Nat → Bool} {pl pl' : Nat → Nat} {V V' M : fV} {k : Nat} {r k0 : Int32} (hL : Lay ar ad rg pl V M σ) (hC : CN l D ar base yy_sg_deliverAll prog_1_method_8_code 3 (Option.some Jvm.ClassFile.FieldType.int) [] 7 96 6 36 (.ref (ad 0 0) :: [.int k0]) σ (fun o σ' t => CO k r o t ∧ Lay ar ad rg pl' V' M σ')) (hkm : k ≤ 1) : CN l D ar base yy_la_deliverAll method_9_code 4 (Option.some Jvm.ClassFile.FieldType.int) [(0, 9, 12, 13)] 8 150 6 36 [.ref (ad 0 0), .int k0, .ref (ad 15 0)] σ (fun o σ' _ => o = .returned (some (.int (nI k))) ∧ ∃ w, (k = 0 → w = r) ∧ Lay ar ad rg pl' (mu V' 62 0 w) M σ') := by
  refine mp_in (Nat.le_of_ble_eq_true rfl) ?_
  intro p e R s m below meth c x hfr hlo hce hsl hr hlk hin hex hG hB ls H hH0 hH hS hl
  have hl : lv_has ls 4 [(0, .ref (ad 0 0)), (1, .int k0), (2, .ref (ad 15 0))] := hl
  refine lv_aload_n x.1 x.2.1 dd_la_deliverAll_0 rfl (lv_at hl 2 rfl) ?_
  refine lv_iconst (v := nI 0) x.1 x.2.1 dd_la_deliverAll_1 (by decide +kernel) ?_
  refine lv_aload_n x.1 x.2.1 dd_la_deliverAll_2 rfl (lv_at hl 0 rfl) ?_
  refine lv_iload_n x.1 x.2.1 dd_la_deliverAll_3 rfl (lv_at hl 1 rfl) ?_
  refine mp_call x (wt_mv base) hG hB hl.1 (mp_invV (av := [.int k0]) x hH (la0 hL) rfl rfl mn_sg_deliverAll mc_sg_deliverAll (Or.inl ww_626) ww_627 ww_628 rfl dd_la_deliverAll_4) hC (Nat.le_trans (Nat.le_of_ble_eq_true rfl) hfr) (Nat.le_trans (Nat.le_of_ble_eq_true rfl) hlo) (Nat.le_trans (Nat.le_of_ble_eq_true rfl) hce) (Nat.le_trans (Nat.le_of_ble_eq_true rfl) hsl) hH hS (fun v σa t0 H locs hp ht0 hvm hzz hH hS => ?_) (fun a σa t0 H locs hp ht0 hvm hzz hH hS => ?_)
  · obtain ⟨hco, hL⟩ := hp
    rcases hco with ⟨hk0, ho⟩ | ⟨-, a, ho, -⟩ | ⟨-, a, ho, -⟩
    · cases ho
      subst hk0
      refine W.eq (g2 := F0 m 7 ls [.int r, .int (nI 0), .ref (ad 15 0)]) rfl ?_
      refine lv_i2l (v := r.toInt64) x.1 x.2.1 dd_la_deliverAll_7 rfl ?_
      refine ko_st (v := r) x hH hS hL rfl dd_la_deliverAll_8 (fun σ hL H locs hH hS => ?_)
      refine lv_goto (tgt := 15) x.1 x.2.1 dd_la_deliverAll_9 (by decide) ?_
      refine lv_iconst (v := nI 0) x.1 x.2.1 dd_la_deliverAll_15 (by decide +kernel) ?_
      exact mp_ri x hr hlk (by decide) (by decide) hH hS (fun _ => ⟨rfl, _, fun _ => rfl, hL⟩) dd_la_deliverAll_16
    · cases ho
    · cases ho
  · obtain ⟨hco, hL⟩ := hp
    rcases hco with ⟨-, ho⟩ | ⟨hk1, a', ho, hT⟩ | ⟨hk2, a', ho, hT⟩
    · cases ho
    · cases ho
      subst hk1
      obtain ⟨cell, t1, t2, t3⟩ := hT
      rw [ht0] at t1
      rw [hvm.findClass] at t3
      refine ct_first x hex (by decide) (by decide) (by decide) ww_303 ww_314 t1 t2 t3 ?_
      refine lv_astore_n (lv' := [(3, .ref a), (0, .ref (ad 0 0)), (1, .int k0), (2, .ref (ad 15 0))]) x.1 x.2.1 dd_la_deliverAll_12 rfl hl (by decide) rfl (fun ls hl => ?_)
      refine lv_iconst (v := nI 1) x.1 x.2.1 dd_la_deliverAll_13 (by decide +kernel) ?_
      exact mp_ri x hr hlk (by decide) (by decide) hH hS (fun _ => ⟨rfl, V' 62 0, fun z => absurd z (by decide), by rw [mu_same]; exact hL⟩) dd_la_deliverAll_14
    · exact absurd hk2 (by omega)
set_option maxRecDepth 100000 in
set_option maxHeartbeats 4000000 in
theorem kk_W_up {l : Launch} {D : va_G} {ar : Nat → ClassId} {base : Nat} {σ : mp_M} {ad : Nat → Nat → Nat} {rg : Nat → Bool} {pl pl' : Nat → Nat} {V V' M : fV} {k : Nat} {r k0 k1 : Int32} (hL : Lay ar ad rg pl V M σ) (hC : CN l D ar base yy_sg_up prog_1_method_9_code 3 (Option.some Jvm.ClassFile.FieldType.boolean) [] 7 96 6 36 (.ref (ad 0 0) :: [.int k0, .int k1]) σ (fun o σ' t => CO k r o t ∧ Lay ar ad rg pl' V' M σ')) (hkm : k ≤ 1) (hbz : r = nI 0 ∨ r = nI 1) : CN l D ar base yy_la_up method_10_code 5 (Option.some Jvm.ClassFile.FieldType.int) [(0, 17, 20, 13)] 8 150 6 36 [.ref (ad 0 0), .int k0, .int k1, .ref (ad 15 0)] σ (fun o σ' _ => o = .returned (some (.int (nI k))) ∧ ∃ w, (k = 0 → w = r) ∧ Lay ar ad rg pl' (mu V' 62 0 w) M σ') := by
  refine mp_in (Nat.le_of_ble_eq_true rfl) ?_
  intro p e R s m below meth c x hfr hlo hce hsl hr hlk hin hex hG hB ls H hH0 hH hS hl
  have hl : lv_has ls 5 [(0, .ref (ad 0 0)), (1, .int k0), (2, .int k1), (3, .ref (ad 15 0))] := hl
  refine lv_aload_n x.1 x.2.1 dd_la_up_0 rfl (lv_at hl 3 rfl) ?_
  refine lv_iconst (v := nI 0) x.1 x.2.1 dd_la_up_1 (by decide +kernel) ?_
  refine lv_aload_n x.1 x.2.1 dd_la_up_2 rfl (lv_at hl 0 rfl) ?_
  refine lv_iload_n x.1 x.2.1 dd_la_up_3 rfl (lv_at hl 1 rfl) ?_
  refine lv_iload_n x.1 x.2.1 dd_la_up_4 rfl (lv_at hl 2 rfl) ?_
  refine mp_call x (wt_mv base) hG hB hl.1 (mp_invV (av := [.int k0, .int k1]) x hH (la0 hL) rfl rfl mn_sg_up mc_sg_up (Or.inl ww_633) ww_634 ww_635 rfl dd_la_up_5) hC (Nat.le_trans (Nat.le_of_ble_eq_true rfl) hfr) (Nat.le_trans (Nat.le_of_ble_eq_true rfl) hlo) (Nat.le_trans (Nat.le_of_ble_eq_true rfl) hce) (Nat.le_trans (Nat.le_of_ble_eq_true rfl) hsl) hH hS (fun v σa t0 H locs hp ht0 hvm hzz hH hS => ?_) (fun a σa t0 H locs hp ht0 hvm hzz hH hS => ?_)
  · obtain ⟨hco, hL⟩ := hp
    rcases hco with ⟨hk0, ho⟩ | ⟨-, a, ho, -⟩ | ⟨-, a, ho, -⟩
    · cases ho
      subst hk0
      refine W.eq (g2 := F0 m 8 ls [.int r, .int (nI 0), .ref (ad 15 0)]) rfl ?_
      rcases hbz with rfl | rfl
      · skip
        refine lv_if_eq (tgt := 15) x.1 x.2.1 dd_la_up_8 (by decide) (fun c3 => ?_) (fun c3 => absurd (by decide +kernel) c3)
        refine lv_lconst (v := 0) x.1 x.2.1 dd_la_up_15 (by decide +kernel) ?_
        refine ko_st (v := nI 0) x hH hS hL (by decide +kernel) dd_la_up_16 (fun σ hL H locs hH hS => ?_)
        refine lv_goto (tgt := 24) x.1 x.2.1 dd_la_up_17 (by decide) ?_
        refine lv_iconst (v := nI 0) x.1 x.2.1 dd_la_up_24 (by decide +kernel) ?_
        exact mp_ri x hr hlk (by decide) (by decide) hH hS (fun _ => ⟨rfl, _, fun _ => rfl, hL⟩) dd_la_up_25
      · skip
        refine lv_if_eq (tgt := 15) x.1 x.2.1 dd_la_up_8 (by decide) (fun c4 => absurd c4 (by decide +kernel)) (fun c4 => ?_)
        refine lv_lconst (v := 1) x.1 x.2.1 dd_la_up_11 (by decide +kernel) ?_
        refine lv_goto (tgt := 16) x.1 x.2.1 dd_la_up_12 (by decide) ?_
        refine ko_st (v := nI 1) x hH hS hL (by decide +kernel) dd_la_up_16 (fun σ hL H locs hH hS => ?_)
        refine lv_goto (tgt := 24) x.1 x.2.1 dd_la_up_17 (by decide) ?_
        refine lv_iconst (v := nI 0) x.1 x.2.1 dd_la_up_24 (by decide +kernel) ?_
        exact mp_ri x hr hlk (by decide) (by decide) hH hS (fun _ => ⟨rfl, _, fun _ => rfl, hL⟩) dd_la_up_25
    · cases ho
    · cases ho
  · obtain ⟨hco, hL⟩ := hp
    rcases hco with ⟨-, ho⟩ | ⟨hk1, a', ho, hT⟩ | ⟨hk2, a', ho, hT⟩
    · cases ho
    · cases ho
      subst hk1
      obtain ⟨cell, t1, t2, t3⟩ := hT
      rw [ht0] at t1
      rw [hvm.findClass] at t3
      refine ct_first x hex (by decide) (by decide) (by decide) ww_303 ww_314 t1 t2 t3 ?_
      refine lv_astore (lv' := [(4, .ref a), (0, .ref (ad 0 0)), (1, .int k0), (2, .int k1), (3, .ref (ad 15 0))]) x.1 x.2.1 dd_la_up_20 hl (by decide) rfl (fun ls hl => ?_)
      refine lv_iconst (v := nI 1) x.1 x.2.1 dd_la_up_22 (by decide +kernel) ?_
      exact mp_ri x hr hlk (by decide) (by decide) hH hS (fun _ => ⟨rfl, V' 62 0, fun z => absurd z (by decide), by rw [mu_same]; exact hL⟩) dd_la_up_23
    · exact absurd hk2 (by omega)
set_option maxRecDepth 100000 in
set_option maxHeartbeats 4000000 in
theorem kk_W_teach {l : Launch} {D : va_G} {ar : Nat → ClassId} {base : Nat} {σ : mp_M} {ad : Nat → Nat → Nat} {rg : Nat → Bool} {pl pl' : Nat → Nat} {V V' M : fV} {k : Nat} {r k0 k1 k2 : Int32} (hL : Lay ar ad rg pl V M σ) (hC : CN l D ar base yy_sg_teach prog_1_method_10_code 4 (Option.some Jvm.ClassFile.FieldType.boolean) [] 7 96 6 36 (.ref (ad 0 0) :: [.int k0, .int k1, .int k2]) σ (fun o σ' t => CO k r o t ∧ Lay ar ad rg pl' V' M σ')) (hkm : k ≤ 2) (hbz : r = nI 0 ∨ r = nI 1) : CN l D ar base yy_la_teach method_11_code 6 (Option.some Jvm.ClassFile.FieldType.int) [(0, 19, 22, 13), (0, 19, 26, 15)] 8 150 6 36 [.ref (ad 0 0), .int k0, .int k1, .int k2, .ref (ad 15 0)] σ (fun o σ' _ => o = .returned (some (.int (nI k))) ∧ ∃ w, (k = 0 → w = r) ∧ Lay ar ad rg pl' (mu V' 62 0 w) M σ') := by
  refine mp_in (Nat.le_of_ble_eq_true rfl) ?_
  intro p e R s m below meth c x hfr hlo hce hsl hr hlk hin hex hG hB ls H hH0 hH hS hl
  have hl : lv_has ls 6 [(0, .ref (ad 0 0)), (1, .int k0), (2, .int k1), (3, .int k2), (4, .ref (ad 15 0))] := hl
  refine lv_aload x.1 x.2.1 dd_la_teach_0 (lv_at hl 4 rfl) ?_
  refine lv_iconst (v := nI 0) x.1 x.2.1 dd_la_teach_2 (by decide +kernel) ?_
  refine lv_aload_n x.1 x.2.1 dd_la_teach_3 rfl (lv_at hl 0 rfl) ?_
  refine lv_iload_n x.1 x.2.1 dd_la_teach_4 rfl (lv_at hl 1 rfl) ?_
  refine lv_iload_n x.1 x.2.1 dd_la_teach_5 rfl (lv_at hl 2 rfl) ?_
  refine lv_iload_n x.1 x.2.1 dd_la_teach_6 rfl (lv_at hl 3 rfl) ?_
  refine mp_call x (wt_mv base) hG hB hl.1 (mp_invV (av := [.int k0, .int k1, .int k2]) x hH (la0 hL) rfl rfl mn_sg_teach mc_sg_teach (Or.inl ww_644) ww_645 ww_646 rfl dd_la_teach_7) hC (Nat.le_trans (Nat.le_of_ble_eq_true rfl) hfr) (Nat.le_trans (Nat.le_of_ble_eq_true rfl) hlo) (Nat.le_trans (Nat.le_of_ble_eq_true rfl) hce) (Nat.le_trans (Nat.le_of_ble_eq_true rfl) hsl) hH hS (fun v σa t0 H locs hp ht0 hvm hzz hH hS => ?_) (fun a σa t0 H locs hp ht0 hvm hzz hH hS => ?_)
  · obtain ⟨hco, hL⟩ := hp
    rcases hco with ⟨hk0, ho⟩ | ⟨-, a, ho, -⟩ | ⟨-, a, ho, -⟩
    · cases ho
      subst hk0
      refine W.eq (g2 := F0 m 10 ls [.int r, .int (nI 0), .ref (ad 15 0)]) rfl ?_
      rcases hbz with rfl | rfl
      · skip
        refine lv_if_eq (tgt := 17) x.1 x.2.1 dd_la_teach_10 (by decide) (fun c5 => ?_) (fun c5 => absurd (by decide +kernel) c5)
        refine lv_lconst (v := 0) x.1 x.2.1 dd_la_teach_17 (by decide +kernel) ?_
        refine ko_st (v := nI 0) x hH hS hL (by decide +kernel) dd_la_teach_18 (fun σ hL H locs hH hS => ?_)
        refine lv_goto (tgt := 30) x.1 x.2.1 dd_la_teach_19 (by decide) ?_
        refine lv_iconst (v := nI 0) x.1 x.2.1 dd_la_teach_30 (by decide +kernel) ?_
        exact mp_ri x hr hlk (by decide) (by decide) hH hS (fun _ => ⟨rfl, _, fun _ => rfl, hL⟩) dd_la_teach_31
      · skip
        refine lv_if_eq (tgt := 17) x.1 x.2.1 dd_la_teach_10 (by decide) (fun c6 => absurd c6 (by decide +kernel)) (fun c6 => ?_)
        refine lv_lconst (v := 1) x.1 x.2.1 dd_la_teach_13 (by decide +kernel) ?_
        refine lv_goto (tgt := 18) x.1 x.2.1 dd_la_teach_14 (by decide) ?_
        refine ko_st (v := nI 1) x hH hS hL (by decide +kernel) dd_la_teach_18 (fun σ hL H locs hH hS => ?_)
        refine lv_goto (tgt := 30) x.1 x.2.1 dd_la_teach_19 (by decide) ?_
        refine lv_iconst (v := nI 0) x.1 x.2.1 dd_la_teach_30 (by decide +kernel) ?_
        exact mp_ri x hr hlk (by decide) (by decide) hH hS (fun _ => ⟨rfl, _, fun _ => rfl, hL⟩) dd_la_teach_31
    · cases ho
    · cases ho
  · obtain ⟨hco, hL⟩ := hp
    rcases hco with ⟨-, ho⟩ | ⟨hk1, a', ho, hT⟩ | ⟨hk2, a', ho, hT⟩
    · cases ho
    · cases ho
      subst hk1
      obtain ⟨cell, t1, t2, t3⟩ := hT
      rw [ht0] at t1
      rw [hvm.findClass] at t3
      refine ct_first x hex (by decide) (by decide) (by decide) ww_303 ww_314 t1 t2 t3 ?_
      refine lv_astore (lv' := [(5, .ref a), (0, .ref (ad 0 0)), (1, .int k0), (2, .int k1), (3, .int k2), (4, .ref (ad 15 0))]) x.1 x.2.1 dd_la_teach_22 hl (by decide) rfl (fun ls hl => ?_)
      refine lv_iconst (v := nI 1) x.1 x.2.1 dd_la_teach_24 (by decide +kernel) ?_
      exact mp_ri x hr hlk (by decide) (by decide) hH hS (fun _ => ⟨rfl, V' 62 0, fun z => absurd z (by decide), by rw [mu_same]; exact hL⟩) dd_la_teach_25
    · cases ho
      subst hk2
      obtain ⟨cell, t1, t2, t3⟩ := hT
      rw [ht0] at t1
      rw [hvm.findClass] at t3
      refine ct_second x hex (by decide) (by decide) (by decide) (by decide) (by decide) (by decide) ww_303 hG.2.2.2.2.2.1 ww_304 ww_385 t1 t2 t3 ?_
      refine lv_astore (lv' := [(5, .ref a), (0, .ref (ad 0 0)), (1, .int k0), (2, .int k1), (3, .int k2), (4, .ref (ad 15 0))]) x.1 x.2.1 dd_la_teach_26 hl (by decide) rfl (fun ls hl => ?_)
      refine lv_iconst (v := nI 2) x.1 x.2.1 dd_la_teach_28 (by decide +kernel) ?_
      exact mp_ri x hr hlk (by decide) (by decide) hH hS (fun _ => ⟨rfl, V' 62 0, fun z => absurd z (by decide), by rw [mu_same]; exact hL⟩) dd_la_teach_29
set_option maxRecDepth 100000 in
set_option maxHeartbeats 4000000 in
theorem kk_W_letter {l : Launch} {D : va_G} {ar : Nat → ClassId} {base : Nat} {σ : mp_M} {ad : Nat → Nat → Nat} {rg : Nat → Bool} {pl pl' : Nat → Nat} {V V' M : fV} {k : Nat} {r k0 k1 : Int32} (hL : Lay ar ad rg pl V M σ) (hC : CN l D ar base yy_sg_letter prog_1_method_12_code 3 (Option.some Jvm.ClassFile.FieldType.int) [] 7 96 6 36 (.ref (ad 0 0) :: [.int k0, .int k1]) σ (fun o σ' t => CO k r o t ∧ Lay ar ad rg pl' V' M σ')) (hkm : k ≤ 1) : CN l D ar base yy_la_letter method_12_code 5 (Option.some Jvm.ClassFile.FieldType.int) [(0, 10, 13, 13)] 8 150 6 36 [.ref (ad 0 0), .int k0, .int k1, .ref (ad 15 0)] σ (fun o σ' _ => o = .returned (some (.int (nI k))) ∧ ∃ w, (k = 0 → w = r) ∧ Lay ar ad rg pl' (mu V' 62 0 w) M σ') := by
  refine mp_in (Nat.le_of_ble_eq_true rfl) ?_
  intro p e R s m below meth c x hfr hlo hce hsl hr hlk hin hex hG hB ls H hH0 hH hS hl
  have hl : lv_has ls 5 [(0, .ref (ad 0 0)), (1, .int k0), (2, .int k1), (3, .ref (ad 15 0))] := hl
  refine lv_aload_n x.1 x.2.1 dd_la_letter_0 rfl (lv_at hl 3 rfl) ?_
  refine lv_iconst (v := nI 0) x.1 x.2.1 dd_la_letter_1 (by decide +kernel) ?_
  refine lv_aload_n x.1 x.2.1 dd_la_letter_2 rfl (lv_at hl 0 rfl) ?_
  refine lv_iload_n x.1 x.2.1 dd_la_letter_3 rfl (lv_at hl 1 rfl) ?_
  refine lv_iload_n x.1 x.2.1 dd_la_letter_4 rfl (lv_at hl 2 rfl) ?_
  refine mp_call x (wt_mv base) hG hB hl.1 (mp_invV (av := [.int k0, .int k1]) x hH (la0 hL) rfl rfl mn_sg_letter mc_sg_letter (Or.inl ww_651) ww_652 ww_653 rfl dd_la_letter_5) hC (Nat.le_trans (Nat.le_of_ble_eq_true rfl) hfr) (Nat.le_trans (Nat.le_of_ble_eq_true rfl) hlo) (Nat.le_trans (Nat.le_of_ble_eq_true rfl) hce) (Nat.le_trans (Nat.le_of_ble_eq_true rfl) hsl) hH hS (fun v σa t0 H locs hp ht0 hvm hzz hH hS => ?_) (fun a σa t0 H locs hp ht0 hvm hzz hH hS => ?_)
  · obtain ⟨hco, hL⟩ := hp
    rcases hco with ⟨hk0, ho⟩ | ⟨-, a, ho, -⟩ | ⟨-, a, ho, -⟩
    · cases ho
      subst hk0
      refine W.eq (g2 := F0 m 8 ls [.int r, .int (nI 0), .ref (ad 15 0)]) rfl ?_
      refine lv_i2l (v := r.toInt64) x.1 x.2.1 dd_la_letter_8 rfl ?_
      refine ko_st (v := r) x hH hS hL rfl dd_la_letter_9 (fun σ hL H locs hH hS => ?_)
      refine lv_goto (tgt := 17) x.1 x.2.1 dd_la_letter_10 (by decide) ?_
      refine lv_iconst (v := nI 0) x.1 x.2.1 dd_la_letter_17 (by decide +kernel) ?_
      exact mp_ri x hr hlk (by decide) (by decide) hH hS (fun _ => ⟨rfl, _, fun _ => rfl, hL⟩) dd_la_letter_18
    · cases ho
    · cases ho
  · obtain ⟨hco, hL⟩ := hp
    rcases hco with ⟨-, ho⟩ | ⟨hk1, a', ho, hT⟩ | ⟨hk2, a', ho, hT⟩
    · cases ho
    · cases ho
      subst hk1
      obtain ⟨cell, t1, t2, t3⟩ := hT
      rw [ht0] at t1
      rw [hvm.findClass] at t3
      refine ct_first x hex (by decide) (by decide) (by decide) ww_303 ww_314 t1 t2 t3 ?_
      refine lv_astore (lv' := [(4, .ref a), (0, .ref (ad 0 0)), (1, .int k0), (2, .int k1), (3, .ref (ad 15 0))]) x.1 x.2.1 dd_la_letter_13 hl (by decide) rfl (fun ls hl => ?_)
      refine lv_iconst (v := nI 1) x.1 x.2.1 dd_la_letter_15 (by decide +kernel) ?_
      exact mp_ri x hr hlk (by decide) (by decide) hH hS (fun _ => ⟨rfl, V' 62 0, fun z => absurd z (by decide), by rw [mu_same]; exact hL⟩) dd_la_letter_16
    · exact absurd hk2 (by omega)
set_option maxRecDepth 100000 in
set_option maxHeartbeats 4000000 in
theorem kk_W_state {l : Launch} {D : va_G} {ar : Nat → ClassId} {base : Nat} {σ : mp_M} {ad : Nat → Nat → Nat} {rg : Nat → Bool} {pl pl' : Nat → Nat} {V V' M : fV} {k : Nat} {r k0 k1 : Int32} (hL : Lay ar ad rg pl V M σ) (hC : CN l D ar base yy_sg_state prog_1_method_13_code 4 (Option.some Jvm.ClassFile.FieldType.int) [] 7 96 6 36 (.ref (ad 0 0) :: [.int k0, .int k1]) σ (fun o σ' t => CO k r o t ∧ Lay ar ad rg pl' V' M σ')) (hkm : k ≤ 1) : CN l D ar base yy_la_state method_13_code 5 (Option.some Jvm.ClassFile.FieldType.int) [(0, 10, 13, 13)] 8 150 6 36 [.ref (ad 0 0), .int k0, .int k1, .ref (ad 15 0)] σ (fun o σ' _ => o = .returned (some (.int (nI k))) ∧ ∃ w, (k = 0 → w = r) ∧ Lay ar ad rg pl' (mu V' 62 0 w) M σ') := by
  refine mp_in (Nat.le_of_ble_eq_true rfl) ?_
  intro p e R s m below meth c x hfr hlo hce hsl hr hlk hin hex hG hB ls H hH0 hH hS hl
  have hl : lv_has ls 5 [(0, .ref (ad 0 0)), (1, .int k0), (2, .int k1), (3, .ref (ad 15 0))] := hl
  refine lv_aload_n x.1 x.2.1 dd_la_state_0 rfl (lv_at hl 3 rfl) ?_
  refine lv_iconst (v := nI 0) x.1 x.2.1 dd_la_state_1 (by decide +kernel) ?_
  refine lv_aload_n x.1 x.2.1 dd_la_state_2 rfl (lv_at hl 0 rfl) ?_
  refine lv_iload_n x.1 x.2.1 dd_la_state_3 rfl (lv_at hl 1 rfl) ?_
  refine lv_iload_n x.1 x.2.1 dd_la_state_4 rfl (lv_at hl 2 rfl) ?_
  refine mp_call x (wt_mv base) hG hB hl.1 (mp_invV (av := [.int k0, .int k1]) x hH (la0 hL) rfl rfl mn_sg_state mc_sg_state (Or.inl ww_667) ww_668 ww_669 rfl dd_la_state_5) hC (Nat.le_trans (Nat.le_of_ble_eq_true rfl) hfr) (Nat.le_trans (Nat.le_of_ble_eq_true rfl) hlo) (Nat.le_trans (Nat.le_of_ble_eq_true rfl) hce) (Nat.le_trans (Nat.le_of_ble_eq_true rfl) hsl) hH hS (fun v σa t0 H locs hp ht0 hvm hzz hH hS => ?_) (fun a σa t0 H locs hp ht0 hvm hzz hH hS => ?_)
  · obtain ⟨hco, hL⟩ := hp
    rcases hco with ⟨hk0, ho⟩ | ⟨-, a, ho, -⟩ | ⟨-, a, ho, -⟩
    · cases ho
      subst hk0
      refine W.eq (g2 := F0 m 8 ls [.int r, .int (nI 0), .ref (ad 15 0)]) rfl ?_
      refine lv_i2l (v := r.toInt64) x.1 x.2.1 dd_la_state_8 rfl ?_
      refine ko_st (v := r) x hH hS hL rfl dd_la_state_9 (fun σ hL H locs hH hS => ?_)
      refine lv_goto (tgt := 17) x.1 x.2.1 dd_la_state_10 (by decide) ?_
      refine lv_iconst (v := nI 0) x.1 x.2.1 dd_la_state_17 (by decide +kernel) ?_
      exact mp_ri x hr hlk (by decide) (by decide) hH hS (fun _ => ⟨rfl, _, fun _ => rfl, hL⟩) dd_la_state_18
    · cases ho
    · cases ho
  · obtain ⟨hco, hL⟩ := hp
    rcases hco with ⟨-, ho⟩ | ⟨hk1, a', ho, hT⟩ | ⟨hk2, a', ho, hT⟩
    · cases ho
    · cases ho
      subst hk1
      obtain ⟨cell, t1, t2, t3⟩ := hT
      rw [ht0] at t1
      rw [hvm.findClass] at t3
      refine ct_first x hex (by decide) (by decide) (by decide) ww_303 ww_314 t1 t2 t3 ?_
      refine lv_astore (lv' := [(4, .ref a), (0, .ref (ad 0 0)), (1, .int k0), (2, .int k1), (3, .ref (ad 15 0))]) x.1 x.2.1 dd_la_state_13 hl (by decide) rfl (fun ls hl => ?_)
      refine lv_iconst (v := nI 1) x.1 x.2.1 dd_la_state_15 (by decide +kernel) ?_
      exact mp_ri x hr hlk (by decide) (by decide) hH hS (fun _ => ⟨rfl, V' 62 0, fun z => absurd z (by decide), by rw [mu_same]; exact hL⟩) dd_la_state_16
    · exact absurd hk2 (by omega)
set_option maxRecDepth 100000 in
set_option maxHeartbeats 4000000 in
theorem kk_W_granted {l : Launch} {D : va_G} {ar : Nat → ClassId} {base : Nat} {σ : mp_M} {ad : Nat → Nat → Nat} {rg : Nat → Bool} {pl pl' : Nat → Nat} {V V' M : fV} {k : Nat} {r k0 k1 k2 k3 : Int32} (hL : Lay ar ad rg pl V M σ) (hC : CN l D ar base yy_sg_granted prog_1_method_14_code 6 (Option.some Jvm.ClassFile.FieldType.int) [] 7 96 6 36 (.ref (ad 0 0) :: [.int k0, .int k1, .int k2, .int k3]) σ (fun o σ' t => CO k r o t ∧ Lay ar ad rg pl' V' M σ')) (hkm : k ≤ 1) : CN l D ar base yy_la_granted method_14_code 7 (Option.some Jvm.ClassFile.FieldType.int) [(0, 14, 17, 13)] 8 150 6 36 [.ref (ad 0 0), .int k0, .int k1, .int k2, .int k3, .ref (ad 15 0)] σ (fun o σ' _ => o = .returned (some (.int (nI k))) ∧ ∃ w, (k = 0 → w = r) ∧ Lay ar ad rg pl' (mu V' 62 0 w) M σ') := by
  refine mp_in (Nat.le_of_ble_eq_true rfl) ?_
  intro p e R s m below meth c x hfr hlo hce hsl hr hlk hin hex hG hB ls H hH0 hH hS hl
  have hl : lv_has ls 7 [(0, .ref (ad 0 0)), (1, .int k0), (2, .int k1), (3, .int k2), (4, .int k3), (5, .ref (ad 15 0))] := hl
  refine lv_aload x.1 x.2.1 dd_la_granted_0 (lv_at hl 5 rfl) ?_
  refine lv_iconst (v := nI 0) x.1 x.2.1 dd_la_granted_2 (by decide +kernel) ?_
  refine lv_aload_n x.1 x.2.1 dd_la_granted_3 rfl (lv_at hl 0 rfl) ?_
  refine lv_iload_n x.1 x.2.1 dd_la_granted_4 rfl (lv_at hl 1 rfl) ?_
  refine lv_iload_n x.1 x.2.1 dd_la_granted_5 rfl (lv_at hl 2 rfl) ?_
  refine lv_iload_n x.1 x.2.1 dd_la_granted_6 rfl (lv_at hl 3 rfl) ?_
  refine lv_iload x.1 x.2.1 dd_la_granted_7 (lv_at hl 4 rfl) ?_
  refine mp_call x (wt_mv base) hG hB hl.1 (mp_invV (av := [.int k0, .int k1, .int k2, .int k3]) x hH (la0 hL) rfl rfl mn_sg_granted mc_sg_granted (Or.inl ww_676) ww_677 ww_678 rfl dd_la_granted_9) hC (Nat.le_trans (Nat.le_of_ble_eq_true rfl) hfr) (Nat.le_trans (Nat.le_of_ble_eq_true rfl) hlo) (Nat.le_trans (Nat.le_of_ble_eq_true rfl) hce) (Nat.le_trans (Nat.le_of_ble_eq_true rfl) hsl) hH hS (fun v σa t0 H locs hp ht0 hvm hzz hH hS => ?_) (fun a σa t0 H locs hp ht0 hvm hzz hH hS => ?_)
  · obtain ⟨hco, hL⟩ := hp
    rcases hco with ⟨hk0, ho⟩ | ⟨-, a, ho, -⟩ | ⟨-, a, ho, -⟩
    · cases ho
      subst hk0
      refine W.eq (g2 := F0 m 12 ls [.int r, .int (nI 0), .ref (ad 15 0)]) rfl ?_
      refine lv_i2l (v := r.toInt64) x.1 x.2.1 dd_la_granted_12 rfl ?_
      refine ko_st (v := r) x hH hS hL rfl dd_la_granted_13 (fun σ hL H locs hH hS => ?_)
      refine lv_goto (tgt := 21) x.1 x.2.1 dd_la_granted_14 (by decide) ?_
      refine lv_iconst (v := nI 0) x.1 x.2.1 dd_la_granted_21 (by decide +kernel) ?_
      exact mp_ri x hr hlk (by decide) (by decide) hH hS (fun _ => ⟨rfl, _, fun _ => rfl, hL⟩) dd_la_granted_22
    · cases ho
    · cases ho
  · obtain ⟨hco, hL⟩ := hp
    rcases hco with ⟨-, ho⟩ | ⟨hk1, a', ho, hT⟩ | ⟨hk2, a', ho, hT⟩
    · cases ho
    · cases ho
      subst hk1
      obtain ⟨cell, t1, t2, t3⟩ := hT
      rw [ht0] at t1
      rw [hvm.findClass] at t3
      refine ct_first x hex (by decide) (by decide) (by decide) ww_303 ww_314 t1 t2 t3 ?_
      refine lv_astore (lv' := [(6, .ref a), (0, .ref (ad 0 0)), (1, .int k0), (2, .int k1), (3, .int k2), (4, .int k3), (5, .ref (ad 15 0))]) x.1 x.2.1 dd_la_granted_17 hl (by decide) rfl (fun ls hl => ?_)
      refine lv_iconst (v := nI 1) x.1 x.2.1 dd_la_granted_19 (by decide +kernel) ?_
      exact mp_ri x hr hlk (by decide) (by decide) hH hS (fun _ => ⟨rfl, V' 62 0, fun z => absurd z (by decide), by rw [mu_same]; exact hL⟩) dd_la_granted_20
    · exact absurd hk2 (by omega)
set_option maxRecDepth 100000 in
set_option maxHeartbeats 4000000 in
theorem kk_W_kept {l : Launch} {D : va_G} {ar : Nat → ClassId} {base : Nat} {σ : mp_M} {ad : Nat → Nat → Nat} {rg : Nat → Bool} {pl pl' : Nat → Nat} {V V' M : fV} {k : Nat} {r k0 k1 k2 : Int32} (hL : Lay ar ad rg pl V M σ) (hC : CN l D ar base yy_sg_kept prog_1_method_15_code 4 (Option.some Jvm.ClassFile.FieldType.int) [] 7 96 6 36 (.ref (ad 0 0) :: [.int k0, .int k1, .int k2]) σ (fun o σ' t => CO k r o t ∧ Lay ar ad rg pl' V' M σ')) (hkm : k ≤ 1) : CN l D ar base yy_la_kept method_15_code 6 (Option.some Jvm.ClassFile.FieldType.int) [(0, 12, 15, 13)] 8 150 6 36 [.ref (ad 0 0), .int k0, .int k1, .int k2, .ref (ad 15 0)] σ (fun o σ' _ => o = .returned (some (.int (nI k))) ∧ ∃ w, (k = 0 → w = r) ∧ Lay ar ad rg pl' (mu V' 62 0 w) M σ') := by
  refine mp_in (Nat.le_of_ble_eq_true rfl) ?_
  intro p e R s m below meth c x hfr hlo hce hsl hr hlk hin hex hG hB ls H hH0 hH hS hl
  have hl : lv_has ls 6 [(0, .ref (ad 0 0)), (1, .int k0), (2, .int k1), (3, .int k2), (4, .ref (ad 15 0))] := hl
  refine lv_aload x.1 x.2.1 dd_la_kept_0 (lv_at hl 4 rfl) ?_
  refine lv_iconst (v := nI 0) x.1 x.2.1 dd_la_kept_2 (by decide +kernel) ?_
  refine lv_aload_n x.1 x.2.1 dd_la_kept_3 rfl (lv_at hl 0 rfl) ?_
  refine lv_iload_n x.1 x.2.1 dd_la_kept_4 rfl (lv_at hl 1 rfl) ?_
  refine lv_iload_n x.1 x.2.1 dd_la_kept_5 rfl (lv_at hl 2 rfl) ?_
  refine lv_iload_n x.1 x.2.1 dd_la_kept_6 rfl (lv_at hl 3 rfl) ?_
  refine mp_call x (wt_mv base) hG hB hl.1 (mp_invV (av := [.int k0, .int k1, .int k2]) x hH (la0 hL) rfl rfl mn_sg_kept mc_sg_kept (Or.inl ww_685) ww_686 ww_687 rfl dd_la_kept_7) hC (Nat.le_trans (Nat.le_of_ble_eq_true rfl) hfr) (Nat.le_trans (Nat.le_of_ble_eq_true rfl) hlo) (Nat.le_trans (Nat.le_of_ble_eq_true rfl) hce) (Nat.le_trans (Nat.le_of_ble_eq_true rfl) hsl) hH hS (fun v σa t0 H locs hp ht0 hvm hzz hH hS => ?_) (fun a σa t0 H locs hp ht0 hvm hzz hH hS => ?_)
  · obtain ⟨hco, hL⟩ := hp
    rcases hco with ⟨hk0, ho⟩ | ⟨-, a, ho, -⟩ | ⟨-, a, ho, -⟩
    · cases ho
      subst hk0
      refine W.eq (g2 := F0 m 10 ls [.int r, .int (nI 0), .ref (ad 15 0)]) rfl ?_
      refine lv_i2l (v := r.toInt64) x.1 x.2.1 dd_la_kept_10 rfl ?_
      refine ko_st (v := r) x hH hS hL rfl dd_la_kept_11 (fun σ hL H locs hH hS => ?_)
      refine lv_goto (tgt := 19) x.1 x.2.1 dd_la_kept_12 (by decide) ?_
      refine lv_iconst (v := nI 0) x.1 x.2.1 dd_la_kept_19 (by decide +kernel) ?_
      exact mp_ri x hr hlk (by decide) (by decide) hH hS (fun _ => ⟨rfl, _, fun _ => rfl, hL⟩) dd_la_kept_20
    · cases ho
    · cases ho
  · obtain ⟨hco, hL⟩ := hp
    rcases hco with ⟨-, ho⟩ | ⟨hk1, a', ho, hT⟩ | ⟨hk2, a', ho, hT⟩
    · cases ho
    · cases ho
      subst hk1
      obtain ⟨cell, t1, t2, t3⟩ := hT
      rw [ht0] at t1
      rw [hvm.findClass] at t3
      refine ct_first x hex (by decide) (by decide) (by decide) ww_303 ww_314 t1 t2 t3 ?_
      refine lv_astore (lv' := [(5, .ref a), (0, .ref (ad 0 0)), (1, .int k0), (2, .int k1), (3, .int k2), (4, .ref (ad 15 0))]) x.1 x.2.1 dd_la_kept_15 hl (by decide) rfl (fun ls hl => ?_)
      refine lv_iconst (v := nI 1) x.1 x.2.1 dd_la_kept_17 (by decide +kernel) ?_
      exact mp_ri x hr hlk (by decide) (by decide) hH hS (fun _ => ⟨rfl, V' 62 0, fun z => absurd z (by decide), by rw [mu_same]; exact hL⟩) dd_la_kept_18
    · exact absurd hk2 (by omega)
set_option maxRecDepth 100000 in
set_option maxHeartbeats 4000000 in
theorem kk_W_total {l : Launch} {D : va_G} {ar : Nat → ClassId} {base : Nat} {σ : mp_M} {ad : Nat → Nat → Nat} {rg : Nat → Bool} {pl pl' : Nat → Nat} {V V' M : fV} {k : Nat} {r k0 : Int32} (hL : Lay ar ad rg pl V M σ) (hC : CN l D ar base yy_sg_total prog_1_method_17_code 2 (Option.some Jvm.ClassFile.FieldType.int) [] 7 96 6 36 (.ref (ad 0 0) :: [.int k0]) σ (fun o σ' t => CO k r o t ∧ Lay ar ad rg pl' V' M σ')) (hkm : k ≤ 1) : CN l D ar base yy_la_total method_16_code 4 (Option.some Jvm.ClassFile.FieldType.int) [(0, 9, 12, 13)] 8 150 6 36 [.ref (ad 0 0), .int k0, .ref (ad 15 0)] σ (fun o σ' _ => o = .returned (some (.int (nI k))) ∧ ∃ w, (k = 0 → w = r) ∧ Lay ar ad rg pl' (mu V' 62 0 w) M σ') := by
  refine mp_in (Nat.le_of_ble_eq_true rfl) ?_
  intro p e R s m below meth c x hfr hlo hce hsl hr hlk hin hex hG hB ls H hH0 hH hS hl
  have hl : lv_has ls 4 [(0, .ref (ad 0 0)), (1, .int k0), (2, .ref (ad 15 0))] := hl
  refine lv_aload_n x.1 x.2.1 dd_la_total_0 rfl (lv_at hl 2 rfl) ?_
  refine lv_iconst (v := nI 0) x.1 x.2.1 dd_la_total_1 (by decide +kernel) ?_
  refine lv_aload_n x.1 x.2.1 dd_la_total_2 rfl (lv_at hl 0 rfl) ?_
  refine lv_iload_n x.1 x.2.1 dd_la_total_3 rfl (lv_at hl 1 rfl) ?_
  refine mp_call x (wt_mv base) hG hB hl.1 (mp_invV (av := [.int k0]) x hH (la0 hL) rfl rfl mn_sg_total mc_sg_total (Or.inl ww_704) ww_705 ww_706 rfl dd_la_total_4) hC (Nat.le_trans (Nat.le_of_ble_eq_true rfl) hfr) (Nat.le_trans (Nat.le_of_ble_eq_true rfl) hlo) (Nat.le_trans (Nat.le_of_ble_eq_true rfl) hce) (Nat.le_trans (Nat.le_of_ble_eq_true rfl) hsl) hH hS (fun v σa t0 H locs hp ht0 hvm hzz hH hS => ?_) (fun a σa t0 H locs hp ht0 hvm hzz hH hS => ?_)
  · obtain ⟨hco, hL⟩ := hp
    rcases hco with ⟨hk0, ho⟩ | ⟨-, a, ho, -⟩ | ⟨-, a, ho, -⟩
    · cases ho
      subst hk0
      refine W.eq (g2 := F0 m 7 ls [.int r, .int (nI 0), .ref (ad 15 0)]) rfl ?_
      refine lv_i2l (v := r.toInt64) x.1 x.2.1 dd_la_total_7 rfl ?_
      refine ko_st (v := r) x hH hS hL rfl dd_la_total_8 (fun σ hL H locs hH hS => ?_)
      refine lv_goto (tgt := 15) x.1 x.2.1 dd_la_total_9 (by decide) ?_
      refine lv_iconst (v := nI 0) x.1 x.2.1 dd_la_total_15 (by decide +kernel) ?_
      exact mp_ri x hr hlk (by decide) (by decide) hH hS (fun _ => ⟨rfl, _, fun _ => rfl, hL⟩) dd_la_total_16
    · cases ho
    · cases ho
  · obtain ⟨hco, hL⟩ := hp
    rcases hco with ⟨-, ho⟩ | ⟨hk1, a', ho, hT⟩ | ⟨hk2, a', ho, hT⟩
    · cases ho
    · cases ho
      subst hk1
      obtain ⟨cell, t1, t2, t3⟩ := hT
      rw [ht0] at t1
      rw [hvm.findClass] at t3
      refine ct_first x hex (by decide) (by decide) (by decide) ww_303 ww_314 t1 t2 t3 ?_
      refine lv_astore_n (lv' := [(3, .ref a), (0, .ref (ad 0 0)), (1, .int k0), (2, .ref (ad 15 0))]) x.1 x.2.1 dd_la_total_12 rfl hl (by decide) rfl (fun ls hl => ?_)
      refine lv_iconst (v := nI 1) x.1 x.2.1 dd_la_total_13 (by decide +kernel) ?_
      exact mp_ri x hr hlk (by decide) (by decide) hH hS (fun _ => ⟨rfl, V' 62 0, fun z => absurd z (by decide), by rw [mu_same]; exact hL⟩) dd_la_total_14
    · exact absurd hk2 (by omega)
set_option maxRecDepth 100000 in
set_option maxHeartbeats 4000000 in
theorem kk_W_register {l : Launch} {D : va_G} {ar : Nat → ClassId} {base : Nat} {σ : mp_M} {ad : Nat → Nat → Nat} {rg : Nat → Bool} {pl : Nat → Nat} {V M : fV} {k : Nat} {k0 k1 k2 : Int32} {P : mp_M → Prop} (hL : Lay ar ad rg pl V M σ) (hC : CN l D ar base yy_sg_register prog_1_method_2_code 4 (Option.none : Option Jvm.ClassFile.FieldType) [] 7 130 110 800 (.ref (ad 0 0) :: [.int k0, .int k1, .int k2]) σ (fun o σ' t => COv k o t ∧ P σ')) : CN l D ar base yy_la_register method_3_code 5 (Option.some Jvm.ClassFile.FieldType.int) [(0, 7, 10, 13), (0, 7, 14, 15)] 8 160 110 800 [.ref (ad 0 0), .int k0, .int k1, .int k2] σ (fun o σ' _ => o = .returned (some (.int (nI k))) ∧ P σ') := by
  refine mp_in (Nat.le_of_ble_eq_true rfl) ?_
  intro p e R s m below meth c x hfr hlo hce hsl hr hlk hin hex hG hB ls H hH0 hH hS hl
  have hl : lv_has ls 5 [(0, .ref (ad 0 0)), (1, .int k0), (2, .int k1), (3, .int k2)] := hl
  refine lv_aload_n x.1 x.2.1 dd_la_register_0 rfl (lv_at hl 0 rfl) ?_
  refine lv_iload_n x.1 x.2.1 dd_la_register_1 rfl (lv_at hl 1 rfl) ?_
  refine lv_iload_n x.1 x.2.1 dd_la_register_2 rfl (lv_at hl 2 rfl) ?_
  refine lv_iload_n x.1 x.2.1 dd_la_register_3 rfl (lv_at hl 3 rfl) ?_
  refine mp_call x (wt_mv base) hG hB hl.1 (mp_invV (av := [.int k0, .int k1, .int k2]) x hH (la0 hL) rfl rfl mn_sg_register mc_sg_register (Or.inl ww_305) ww_306 ww_307 rfl dd_la_register_4) hC (Nat.le_trans (Nat.le_of_ble_eq_true rfl) hfr) (Nat.le_trans (Nat.le_of_ble_eq_true rfl) hlo) (Nat.le_trans (Nat.le_of_ble_eq_true rfl) hce) (Nat.le_trans (Nat.le_of_ble_eq_true rfl) hsl) hH hS (fun v σa t0 H locs hp ht0 hvm hzz hH hS => ?_) (fun a σa t0 H locs hp ht0 hvm hzz hH hS => ?_)
  · obtain ⟨hco, hP⟩ := hp
    rcases hco with ⟨hk0, ho⟩ | ⟨-, a, ho, -⟩ | ⟨-, a, ho, -⟩
    · cases ho
      subst hk0
      refine W.eq (g2 := F0 m 7 ls []) rfl ?_
      refine lv_goto (tgt := 18) x.1 x.2.1 dd_la_register_7 (by decide) ?_
      refine lv_iconst (v := nI 0) x.1 x.2.1 dd_la_register_18 (by decide +kernel) ?_
      exact mp_ri x hr hlk (by decide) (by decide) hH hS (fun _ => ⟨rfl, hP⟩) dd_la_register_19
    · cases ho
    · cases ho
  · obtain ⟨hco, hP⟩ := hp
    rcases hco with ⟨-, ho⟩ | ⟨hk1, a', ho, hT⟩ | ⟨hk2, a', ho, hT⟩
    · cases ho
    · cases ho
      subst hk1
      obtain ⟨cell, t1, t2, t3⟩ := hT
      rw [ht0] at t1
      rw [hvm.findClass] at t3
      refine ct_first x hex (by decide) (by decide) (by decide) ww_303 ww_314 t1 t2 t3 ?_
      refine lv_astore (lv' := [(4, .ref a), (0, .ref (ad 0 0)), (1, .int k0), (2, .int k1), (3, .int k2)]) x.1 x.2.1 dd_la_register_10 hl (by decide) rfl (fun ls hl => ?_)
      refine lv_iconst (v := nI 1) x.1 x.2.1 dd_la_register_12 (by decide +kernel) ?_
      exact mp_ri x hr hlk (by decide) (by decide) hH hS (fun _ => ⟨rfl, hP⟩) dd_la_register_13
    · cases ho
      subst hk2
      obtain ⟨cell, t1, t2, t3⟩ := hT
      rw [ht0] at t1
      rw [hvm.findClass] at t3
      refine ct_second x hex (by decide) (by decide) (by decide) (by decide) (by decide) (by decide) ww_303 hG.2.2.2.2.2.1 ww_304 ww_385 t1 t2 t3 ?_
      refine lv_astore (lv' := [(4, .ref a), (0, .ref (ad 0 0)), (1, .int k0), (2, .int k1), (3, .int k2)]) x.1 x.2.1 dd_la_register_14 hl (by decide) rfl (fun ls hl => ?_)
      refine lv_iconst (v := nI 2) x.1 x.2.1 dd_la_register_16 (by decide +kernel) ?_
      exact mp_ri x hr hlk (by decide) (by decide) hH hS (fun _ => ⟨rfl, hP⟩) dd_la_register_17
