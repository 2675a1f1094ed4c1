/-! DELIVERING ALL: both loops. -/
/-- k letters were handed over of at most q0 -/
def DONE (G : fV) (q0 k : Nat) : Prop := k ≤ q0 ∧ (∀ j, j < k → ¬ mit G j 22 0 = nI 0) ∧ (k = q0 ∨ mit G k 22 0 = nI 0)
theorem DONE_one {G : fV} {q0 k k' : Nat} (h : DONE G q0 k) (h' : DONE G q0 k') : k = k' := by
  obtain ⟨h1, h2, h3⟩ := h
  obtain ⟨i1, i2, i3⟩ := h'
  rcases Nat.lt_trichotomy k k' with q | q | q
  · rcases h3 with z | z
    · omega
    · exact absurd z (i2 k q)
  · exact q
  · rcases i3 with z | z
    · omega
    · exact absurd z (h2 k' q)
set_option maxRecDepth 100000 in
set_option maxHeartbeats 4000000 in
theorem kk_X_deliverAll_0 {l : Launch} {D : va_G} {ar : Nat → ClassId} {base : Nat} {σ : mp_M} {ad : Nat → Nat → Nat} {rg : Nat → Bool} {pl : Nat → Nat} {V M : fV} {q0 f0 n0 : Nat} {G : fV} (hL : Lay ar ad rg pl V M σ) (hfl : l.flags = flags0) (hq0 : q0 ≤ 2000) (hI0 : INV rg pl V G f0 n0) : CN l D ar base yy_sg_deliverAll prog_1_method_8_code 3 (Option.some Jvm.ClassFile.FieldType.int) [] 7 96 6 36 [.ref (ad 0 0), .int (nI q0)] σ (fun o σ' _ => ∃ k, o = .returned (some (.int (nI k))) ∧ DONE G q0 k ∧ Lay ar ad rg (cit rg (pl, V) k).1 (cit rg (pl, V) k).2 M σ') := by
  refine mp_in (Nat.le_of_ble_eq_true rfl) ?_
  intro p e R s m below meth c x hfr hlo hce hsl hr hlk hin hex hG hB ls H hH0 hH hS hl
  have hl : lv_has ls 3 [(0, .ref (ad 0 0)), (1, .int (nI q0))] := hl
  refine lv_iload_n x.1 x.2.1 dd_sg_deliverAll_0 rfl (lv_at hl 1 rfl) ?_
  refine lv_iconst (v := nI 0) x.1 x.2.1 dd_sg_deliverAll_1 (by decide +kernel) ?_
  refine lv_sipush (v := nI 2000) x.1 x.2.1 dd_sg_deliverAll_2 (by decide +kernel) ?_
  refine mp_call x (wt_mv base) hG hB hl.1 (mp_invS (av := [.int (nI q0), .int (nI 0), .int (nI 2000)]) x mn_sg_needWithin mc_sg_needWithin (Or.inl ww_379) ww_380 ww_54 rfl dd_sg_deliverAll_5) (kk_G_within_ok hfl (wi_ok (by omega) (by omega) (by decide))) (Nat.le_trans (Nat.le_of_ble_eq_true rfl) hfr) (Nat.le_trans (Nat.le_of_ble_eq_true rfl) hlo) (Nat.le_trans (Nat.le_of_ble_eq_true rfl) hce) (Nat.le_trans (Nat.le_of_ble_eq_true rfl) hsl) hH hS (fun v σa t0 H locs hp1001 ht0 hvm hzz hH hS => ?_) (fun _ _ _ _ _ hz _ _ _ _ _ => by cases hz.1)
  obtain ⟨ho, hσ⟩ := hp1001
  cases ho
  rw [hσ] at hH
  refine W.eq (g2 := F0 m 8 ls []) rfl ?_
  refine lv_iconst (v := nI 0) x.1 x.2.1 dd_sg_deliverAll_8 (by decide +kernel) ?_
  refine lv_istore_n (lv' := [(2, .int (nI 0)), (0, .ref (ad 0 0)), (1, .int (nI q0))]) x.1 x.2.1 dd_sg_deliverAll_9 rfl hl (by decide) rfl (fun ls hl => ?_)
  have loop1002 : ∀ (n1003 : Nat) (k : Nat) (σ : mp_M), k ≤ q0 → (∀ j, j < k → ¬ mit G j 22 0 = nI 0) → Lay ar ad rg ((cit rg (pl, V) k).1) ((cit rg (pl, V) k).2) M σ → q0 - k < n1003 → ∀ (ls : Array Slot) (H : Heap) (locs : List Loc), lv_has ls 3 [(0, .ref (ad 0 0)), (1, .int (nI q0)), (2, .int (nI k))] → HH D base σ H → va_S (mp_A base) s.heap H locs → W p l e R s m [.ref (ad 0 0), .int (nI q0)].toArray below meth c H locs 1 6 (mp_Q below s 6 36 base (mp_P D cl_L base s (fun o σ' _ => ∃ k, o = .returned (some (.int (nI k))) ∧ DONE G q0 k ∧ Lay ar ad rg (cit rg (pl, V) k).1 (cit rg (pl, V) k).2 M σ'))) (F0 m 10 ls []) := by
    intro n1003
    induction n1003 with
    | zero => intro k σ hk hj hL hmz; exact absurd hmz (Nat.not_lt_zero _)
    | succ n1003 ihloop1002 =>
      intro k σ hk hj hL hmz ls H locs hl hH hS
      obtain ⟨f, n, hI⟩ := SIM_iter hI0 k hj
      obtain ⟨pq, hpq⟩ : ∃ pq, pq = cit rg (pl, V) k := ⟨_, rfl⟩
      rw [← hpq] at hL hI
      obtain ⟨hf, hf2, hn, hn2, hpl⟩ := id hI.1.1
      refine lv_iload_n x.1 x.2.1 dd_sg_deliverAll_10 rfl (lv_at hl 2 rfl) ?_
      refine lv_iload_n x.1 x.2.1 dd_sg_deliverAll_11 rfl (lv_at hl 1 rfl) ?_
      refine lv_icmp_ge (tgt := 44) x.1 x.2.1 dd_sg_deliverAll_12 (by decide) (fun c1004 => ?_) (fun c1004 => ?_)
      · have c1004 : q0 ≤ k := (cv_le (a := q0) (b := k) (by omega) (by omega)).mp c1004
        refine lv_iload_n x.1 x.2.1 dd_sg_deliverAll_44 rfl (lv_at hl 2 rfl) ?_
        exact mp_ri x hr hlk (by decide) (by decide) hH hS (fun _ => ⟨k, rfl, ⟨hk, hj, Or.inl (by omega)⟩, by rw [hpq] at hL; exact hL⟩) dd_sg_deliverAll_45
      · have c1004 : ¬ (q0 ≤ k) := fun h => c1004 ((cv_le (a := q0) (b := k) (by omega) (by omega)).mpr h)
        refine lv_aload_n x.1 x.2.1 dd_sg_deliverAll_15 rfl (lv_at hl 0 rfl) ?_
        refine mp_get x hH (la0 hL) fg_sg_27 rfl dd_sg_deliverAll_16 ?_
        refine mp_get x hH (la2 hL) fg_sg_123 rfl dd_sg_deliverAll_19 ?_
        refine mn_top (w := nI n) (hn) ?_
        refine lv_if_le (tgt := 44) x.1 x.2.1 dd_sg_deliverAll_22 (by decide) (fun c1005 => ?_) (fun c1005 => ?_)
        · have c1005 : n ≤ 0 := (cv_le (a := n) (b := 0) (by omega) (by omega)).mp c1005
          refine lv_iload_n x.1 x.2.1 dd_sg_deliverAll_44 rfl (lv_at hl 2 rfl) ?_
          exact mp_ri x hr hlk (by decide) (by decide) hH hS (fun _ => ⟨k, rfl, ⟨hk, hj, Or.inr (by rw [hI.1.2.1]; exact congrArg nI (by omega))⟩, by rw [hpq] at hL; exact hL⟩) dd_sg_deliverAll_45
        · have c1005 : ¬ (n ≤ 0) := fun h => c1005 ((cv_le (a := n) (b := 0) (by omega) (by omega)).mpr h)
          have hn0 : 0 < n := by omega
          obtain ⟨kd, fr, a0, b0, su, nu, mo, n2, nc, hv, hC, hd, hM3, h12⟩ := INV_letter hI hn0
          obtain ⟨t, hte⟩ : ∃ t, pq.1 ((f + 0) % 100 + 1) = t := ⟨_, rfl⟩
          rw [hte] at hv
          obtain ⟨d, hdx⟩ : ∃ d, dx rg a0 b0 = d := ⟨_, rfl⟩
          rw [hdx] at hC h12
          obtain ⟨hkd1, hkl, ha, hb, hc4, hfr5⟩ := LTv_kd hv
          have ht : t < 101 := hte ▸ hpl _ (by omega)
          obtain ⟨hkd, hfr4, hto, hpr, hsu4, hnu4, hmo4, hc3⟩ := id hv.2.1
          refine lv_aload_n x.1 x.2.1 dd_sg_deliverAll_25 rfl (lv_at hl 0 rfl) ?_
          refine lv_aload_n x.1 x.2.1 dd_sg_deliverAll_26 rfl (lv_at hl 0 rfl) ?_
          refine mp_get x hH (la0 hL) fg_sg_27 rfl dd_sg_deliverAll_27 ?_
          refine lv_iconst (v := nI 0) x.1 x.2.1 dd_sg_deliverAll_30 (by decide +kernel) ?_
          refine mp_call x (wt_mv base) hG hB hl.1 (mp_invV (av := [.int (nI 0)]) x hH (la2 hL) rfl rfl mn_lr_take mc_lr_take (Or.inr ⟨_, ww_538⟩) ww_540 ww_22 rfl dd_sg_deliverAll_31) (kk_R_take hL ⟨hf, by omega, hn, by omega, hpl⟩ (by omega)) (Nat.le_trans (Nat.le_of_ble_eq_true rfl) hfr) (Nat.le_trans (Nat.le_of_ble_eq_true rfl) hlo) (Nat.le_trans (Nat.le_of_ble_eq_true rfl) hce) (Nat.le_trans (Nat.le_of_ble_eq_true rfl) hsl) hH hS (fun v σa t0 H locs hp1006 ht0 hvm hzz hH hS => ?_) (fun _ _ _ _ _ hz _ _ _ _ _ => by cases hz.1)
          obtain ⟨ho, hL⟩ := hp1006
          cases ho
          refine W.eq (g2 := F0 m 34 ls [.ref (ad 4 (pq.1 ((f + 0) % 100 + 1))), .ref (ad 0 0)]) rfl ?_
          have hpl := tkp_lt (f := f) (i := 0) hpl
          rw [hte]
          refine mp_call x (wt_mv base) hG hB hl.1 (mp_invV (av := [.ref (ad 4 t)]) x hH (la0 hL) rfl rfl mn_sg_handOver mc_sg_handOver (Or.inl ww_546) ww_548 ww_24 rfl dd_sg_deliverAll_34) (kk_G_handOver (a0 := a0) (b0 := b0) (d := d) (t := t) (nc := nc) (n2 := n2) (kd := kd) hL ⟨(mu_k (by decide)).trans (mu_s), by omega, mu_s, by omega, hpl⟩ (by omega) (by omega) hdx ht ((mu_k (by decide)).trans ((mu_k (by decide)).trans (hto))) ((mu_k (by decide)).trans ((mu_k (by decide)).trans (hpr))) ((mu_k (by decide)).trans ((mu_k (by decide)).trans (hkd))) (by omega) ((mu_k (by decide)).trans ((mu_k (by decide)).trans (hC))) (by omega) ((mu_k (by decide)).trans ((mu_k (by decide)).trans (hc3))) (by omega) h12) (Nat.le_trans (Nat.le_of_ble_eq_true rfl) hfr) (Nat.le_trans (Nat.le_of_ble_eq_true rfl) hlo) (Nat.le_trans (Nat.le_of_ble_eq_true rfl) hce) (Nat.le_trans (Nat.le_of_ble_eq_true rfl) hsl) hH hS (fun v σa t0 H locs hp1007 ht0 hvm hzz hH hS => ?_) (fun _ _ _ _ _ hz _ _ _ _ _ => by cases hz.1)
          obtain ⟨ho, hL⟩ := hp1007
          cases ho
          refine W.eq (g2 := F0 m 37 ls [.int (shoR nc n2 (mu (mu pq.2 54 0 (nI ((f + 1) % 100))) 55 0 (nI (n - 1))) d t kd a0)]) rfl ?_
          refine lv_pop x.1 x.2.1 dd_sg_deliverAll_37 rfl ?_
          refine lv_iinc (v := nI (k + 1)) (lv' := [(2, .int (nI (k + 1))), (0, .ref (ad 0 0)), (1, .int (nI q0))]) x.1 x.2.1 dd_sg_deliverAll_38 hl (k := 2) rfl (mn_inc _) (by decide) rfl (fun ls hl => ?_)
          refine lv_goto (tgt := 10) x.1 x.2.1 dd_sg_deliverAll_41 (by decide) ?_
          exact ihloop1002 (k + 1) _ (by omega) (fun j hj2 => by
            rcases Nat.lt_succ_iff_lt_or_eq.mp hj2 with z | z
            · exact hj j z
            · rw [z, hI.1.2.1]; exact fun e => absurd ((nI_eq (by omega) (by omega)).mp e) (by omega)) (by
            show Lay ar ad rg (cst1 rg (cit rg (pl, V) k)).1 (cst1 rg (cit rg (pl, V) k)).2 M _
            rw [← hpq, show cst1 rg pq = _ from cst1_eq (rg := rg) (pl := pq.1) (V := pq.2) hf hf2 hn hn2 hte hv (by rw [hdx]; exact hC) hd, hdx]
            exact hL) (by omega) ls H _ (lv_sub hl [1, 2, 0] rfl) hH hS
  exact loop1002 _ 0 _ (Nat.zero_le _) (fun j h => absurd h (Nat.not_lt_zero _)) hL (Nat.lt_succ_self _) ls H _ (lv_sub hl [1, 2, 0] rfl) hH hS
set_option maxRecDepth 100000 in
set_option maxHeartbeats 4000000 in
theorem kk_MX_deliverAll_0 {l : Launch} {D : va_G} {ar : Nat → ClassId} {base : Nat} {σ : mp_M} {ad : Nat → Nat → Nat} {rg : Nat → Bool} {pl : Nat → Nat} {V M : fV} {q0 f0 n0 : Nat} {pg : Nat → Nat} {Vg : fV} (hL : Lay ar ad rg pl V M σ) (hq0 : q0 ≤ 2000) (hI0 : INV rg pg Vg M f0 n0) : CN l D ar base yy_md_deliverAll prog_9_method_25_code 3 (Option.some Jvm.ClassFile.FieldType.int) [] 5 90 0 0 [.ref (ad 13 0), .int (nI q0)] σ (fun o σ' _ => ∃ k, o = .returned (some (.int (nI k))) ∧ DONE (mu M 27 0 (nI 0)) q0 k ∧ Lay ar ad rg pl V (mit (mu M 27 0 (nI 0)) k) σ') := by
  refine mp_in (Nat.le_of_ble_eq_true rfl) ?_
  intro p e R s m below meth c x hfr hlo hce hsl hr hlk hin hex hG hB ls H hH0 hH hS hl
  have hl : lv_has ls 3 [(0, .ref (ad 13 0)), (1, .int (nI q0))] := hl
  refine lv_aload_n x.1 x.2.1 dd_md_deliverAll_0 rfl (lv_at hl 0 rfl) ?_
  refine lv_iload_n x.1 x.2.1 dd_md_deliverAll_1 rfl (lv_at hl 1 rfl) ?_
  refine lv_sipush (v := nI 2001) x.1 x.2.1 dd_md_deliverAll_2 (by decide +kernel) ?_
  refine mp_call x (wt_mv base) hG hB hl.1 (mp_invS (av := [.int (nI q0), .int (nI 2001)]) x mn_md_within mc_md_within (Or.inl ww_811) ww_812 ww_60 rfl dd_md_deliverAll_5) (kk_M_within_ok (in_ok (by omega) (by decide))) (Nat.le_trans (Nat.le_of_ble_eq_true rfl) hfr) (Nat.le_trans (Nat.le_of_ble_eq_true rfl) hlo) (Nat.le_trans (Nat.le_of_ble_eq_true rfl) hce) (Nat.le_trans (Nat.le_of_ble_eq_true rfl) hsl) hH hS (fun v σa t0 H locs hp1008 ht0 hvm hzz hH hS => ?_) (fun _ _ _ _ _ hz _ _ _ _ _ => by cases hz.1)
  obtain ⟨ho, hσ⟩ := hp1008
  cases ho
  rw [hσ] at hH
  refine W.eq (g2 := F0 m 8 ls [.int (nI 1), .ref (ad 13 0)]) rfl ?_
  refine lv_if_ne (tgt := 15) x.1 x.2.1 dd_md_deliverAll_8 (by decide) (fun c1009 => ?_) (fun c1009 => absurd c1009 (by decide +kernel))
  refine lv_iconst (v := nI 0) x.1 x.2.1 dd_md_deliverAll_15 (by decide +kernel) ?_
  refine lv_iconst (v := nI 1) x.1 x.2.1 dd_md_deliverAll_16 (by decide +kernel) ?_
  refine mp_call x (wt_mv base) hG hB hl.1 (mp_invV (av := [.int (nI 0), .int (nI 1)]) x hH (la13 hL) rfl rfl mn_md_fails mc_md_fails (Or.inl ww_814) ww_816 ww_41 rfl dd_md_deliverAll_17) (kk_M_fails0 hL) (Nat.le_trans (Nat.le_of_ble_eq_true rfl) hfr) (Nat.le_trans (Nat.le_of_ble_eq_true rfl) hlo) (Nat.le_trans (Nat.le_of_ble_eq_true rfl) hce) (Nat.le_trans (Nat.le_of_ble_eq_true rfl) hsl) hH hS (fun v σa t0 H locs hp1010 ht0 hvm hzz hH hS => ?_) (fun _ _ _ _ _ hz _ _ _ _ _ => by cases hz.1)
  obtain ⟨ho, hL⟩ := hp1010
  cases ho
  refine W.eq (g2 := F0 m 20 ls [.int (nI 0)]) rfl ?_
  refine lv_if_eq (tgt := 25) x.1 x.2.1 dd_md_deliverAll_20 (by decide) (fun c1011 => ?_) (fun c1011 => absurd (by decide +kernel) c1011)
  refine lv_iconst (v := nI 0) x.1 x.2.1 dd_md_deliverAll_25 (by decide +kernel) ?_
  refine lv_istore_n (lv' := [(2, .int (nI 0)), (0, .ref (ad 13 0)), (1, .int (nI q0))]) x.1 x.2.1 dd_md_deliverAll_26 rfl hl (by decide) rfl (fun ls hl => ?_)
  have loop1012 : ∀ (n1013 : Nat) (k : Nat) (σ : mp_M), k ≤ q0 → (∀ j, j < k → ¬ mit (mu M 27 0 (nI 0)) j 22 0 = nI 0) → Lay ar ad rg pl V (mit (mu M 27 0 (nI 0)) k) σ → q0 - k < n1013 → ∀ (ls : Array Slot) (H : Heap) (locs : List Loc), lv_has ls 3 [(0, .ref (ad 13 0)), (1, .int (nI q0)), (2, .int (nI k))] → HH D base σ H → va_S (mp_A base) s.heap H locs → W p l e R s m [.ref (ad 13 0), .int (nI q0)].toArray below meth c H locs 0 0 (mp_Q below s 0 0 base (mp_P D cl_L base s (fun o σ' _ => ∃ k, o = .returned (some (.int (nI k))) ∧ DONE (mu M 27 0 (nI 0)) q0 k ∧ Lay ar ad rg pl V (mit (mu M 27 0 (nI 0)) k) σ'))) (F0 m 27 ls []) := by
    intro n1013
    induction n1013 with
    | zero => intro k σ hk hj hL hmz; exact absurd hmz (Nat.not_lt_zero _)
    | succ n1013 ihloop1012 =>
      intro k σ hk hj hL hmz ls H locs hl hH hS
      obtain ⟨f, n, hI⟩ := SIM_iter (INV_27 (v := nI 0) hI0) k hj
      obtain ⟨mq, hmq⟩ : ∃ mq, mq = mit (mu M 27 0 (nI 0)) k := ⟨_, rfl⟩
      rw [← hmq] at hL hI
      have hn := hI.1.2.1
      have hn2 := hI.1.1.2.2.2.1
      refine lv_iload_n x.1 x.2.1 dd_md_deliverAll_27 rfl (lv_at hl 2 rfl) ?_
      refine lv_iload_n x.1 x.2.1 dd_md_deliverAll_28 rfl (lv_at hl 1 rfl) ?_
      refine lv_icmp_ge (tgt := 51) x.1 x.2.1 dd_md_deliverAll_29 (by decide) (fun c1014 => ?_) (fun c1014 => ?_)
      · have c1014 : q0 ≤ k := (cv_le (a := q0) (b := k) (by omega) (by omega)).mp c1014
        refine lv_iload_n x.1 x.2.1 dd_md_deliverAll_51 rfl (lv_at hl 2 rfl) ?_
        exact mp_ri x hr hlk (by decide) (by decide) hH hS (fun _ => ⟨k, rfl, ⟨hk, hj, Or.inl (by omega)⟩, by rw [hmq] at hL; exact hL⟩) dd_md_deliverAll_52
      · have c1014 : ¬ (q0 ≤ k) := fun h => c1014 ((cv_le (a := q0) (b := k) (by omega) (by omega)).mpr h)
        refine lv_aload_n x.1 x.2.1 dd_md_deliverAll_32 rfl (lv_at hl 0 rfl) ?_
        refine mp_get x hH (la13 hL) fg_md_99 rfl dd_md_deliverAll_33 ?_
        refine mn_top (w := nI n) (hn) ?_
        refine lv_if_le (tgt := 51) x.1 x.2.1 dd_md_deliverAll_36 (by decide) (fun c1015 => ?_) (fun c1015 => ?_)
        · have c1015 : n ≤ 0 := (cv_le (a := n) (b := 0) (by omega) (by omega)).mp c1015
          refine lv_iload_n x.1 x.2.1 dd_md_deliverAll_51 rfl (lv_at hl 2 rfl) ?_
          exact mp_ri x hr hlk (by decide) (by decide) hH hS (fun _ => ⟨k, rfl, ⟨hk, hj, Or.inr (by rw [← hmq, hn]; exact congrArg nI (by omega))⟩, by rw [hmq] at hL; exact hL⟩) dd_md_deliverAll_52
        · have c1015 : ¬ (n ≤ 0) := fun h => c1015 ((cv_le (a := n) (b := 0) (by omega) (by omega)).mpr h)
          have hn0 : 0 < n := by omega
          obtain ⟨kd, fr, a0, b0, su, nu, mo, n2, dc, hv, hC, hd, hM3, h12⟩ := INV_letter hI hn0
          obtain ⟨hkd1, hkl, ha, hb, hc4, hfr5⟩ := LTv_kd hv
          obtain ⟨hl0, hl1, hl2, hl3, hl4, hl5, hl6, hl9⟩ := id hv.2.2.1
          refine lv_aload_n x.1 x.2.1 dd_md_deliverAll_39 rfl (lv_at hl 0 rfl) ?_
          refine lv_iconst (v := nI 0) x.1 x.2.1 dd_md_deliverAll_40 (by decide +kernel) ?_
          refine mp_call x (wt_mv base) hG hB hl.1 (mp_invV (av := [.int (nI 0)]) x hH (la13 hL) rfl rfl mn_md_handOver mc_md_handOver (Or.inl ww_849) ww_851 ww_45 rfl dd_md_deliverAll_41) (kk_M_handOver (i := 0) (a0 := a0) (b0 := b0) (a := 20 * a0 + b0) (n := n) (dc := dc) (n2 := n2) (kd := kd) hL rfl ha hb hn hn2 hM3 hd hn0 hl0 hkd1 hkl hl2 hl3 hl9 hc4 (h12_of hI hn0 hv hM3 hd)) (Nat.le_trans (Nat.le_of_ble_eq_true rfl) hfr) (Nat.le_trans (Nat.le_of_ble_eq_true rfl) hlo) (Nat.le_trans (Nat.le_of_ble_eq_true rfl) hce) (Nat.le_trans (Nat.le_of_ble_eq_true rfl) hsl) hH hS (fun v σa t0 H locs hp1016 ht0 hvm hzz hH hS => ?_) (fun _ _ _ _ _ hz _ _ _ _ _ => by cases hz.1)
          obtain ⟨ho, hL⟩ := hp1016
          cases ho
          refine W.eq (g2 := F0 m 44 ls [.int (mho mq 0 n (20 * a0 + b0) dc n2 kd a0 b0 26 0 - mq 26 0)]) rfl ?_
          refine lv_pop x.1 x.2.1 dd_md_deliverAll_44 rfl ?_
          refine lv_iinc (v := nI (k + 1)) (lv' := [(2, .int (nI (k + 1))), (0, .ref (ad 13 0)), (1, .int (nI q0))]) x.1 x.2.1 dd_md_deliverAll_45 hl (k := 2) rfl (mn_inc _) (by decide) rfl (fun ls hl => ?_)
          refine lv_goto (tgt := 27) x.1 x.2.1 dd_md_deliverAll_48 (by decide) ?_
          exact ihloop1012 (k + 1) _ (by omega) (fun j hj2 => by
            rcases Nat.lt_succ_iff_lt_or_eq.mp hj2 with z | z
            · exact hj j z
            · rw [z, ← hmq, hn]; exact fun e => absurd ((nI_eq (by omega) (by omega)).mp e) (by omega)) (by
            show Lay ar ad rg pl V (mst1 (mit (mu M 27 0 (nI 0)) k)) _
            rw [← hmq, mst1_eq hn hn2 hv hM3 hd]
            exact hL) (by omega) ls H _ (lv_sub hl [1, 2, 0] rfl) hH hS
  exact loop1012 _ 0 _ (Nat.zero_le _) (fun j h => absurd h (Nat.not_lt_zero _)) hL (Nat.lt_succ_self _) ls H _ (lv_sub hl [1, 2, 0] rfl) hH hS
