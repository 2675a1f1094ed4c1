/-! THE MODEL's letters that come, and its public methods. -/
def mla (M : fV) (a dc : Nat) : Nat → fV
  | 0 => M
  | j + 1 => mln (mla M a dc j) a (dc + j) (M 23 (10 + 2 * (dc + j))) (M 23 (11 + 2 * (dc + j)))
theorem mla_3 {M : fV} {a dc : Nat} (h : M 3 a = nI dc) (j : Nat) : mla M a dc j 3 a = nI (dc + j) := by
  cases j with
  | zero => exact h
  | succ j => exact mln_3
theorem mla_o {M : fV} {a dc k i : Nat} (h : k < 3 ∨ 16 < k ∨ 6 ≤ k ∧ k ≤ 8 ∨ k = 12 ∨ k = 13) (j : Nat) : mla M a dc j k i = M k i := by
  induction j with
  | zero => rfl
  | succ j ih => exact (mln_o h).trans ih
noncomputable def mcm (M : fV) (n a dc n2 kd a0 b0 : Nat) : fV :=
  if kd = 1 ∨ kd = 3 then
    (if nI (mx dc n2) < M 23 4 then (if M 23 4 = nI (mx dc n2 + 1) then (if kd = 3 then mas1 (mla M a dc (n2 - dc)) n a (mx dc n2) a0 b0 (M 23 1) (M 23 4) (M 23 5) else mas0 (mla M a dc (n2 - dc)) n a (mx dc n2) a0 b0 (M 23 1) (M 23 4) (M 23 5)) else mla M a dc (n2 - dc))
     else msn (mla M a dc (n2 - dc)) n a (mx dc n2) a0 b0 (nI 6) (M 23 1) (M 23 4) (M 23 5) (nI 0) (-1) (-1))
  else if kd = 6 ∨ mla M a dc (n2 - dc) 11 a = 0 ∨ ¬ mla M a dc (n2 - dc) 11 a = M 23 4 then mla M a dc (n2 - dc)
  else if kd = 5 then (if M 20 a < M 23 6 then mu (mla M a dc (n2 - dc)) 20 a (M 23 6) else mla M a dc (n2 - dc))
  else if ¬ M 23 5 = mla M a dc (n2 - dc) 14 a ∨ ¬ mla M a dc (n2 - dc) 15 a = (if kd = 2 then nI 1 else nI 2) then mla M a dc (n2 - dc)
  else if kd = 2 then mpb (mu (mla M a dc (n2 - dc)) 16 a (mla M a dc (n2 - dc) 16 a ||| nI 1 <<< (M 23 1 &&& 31))) n a (mx dc n2) a0 b0 (M 23 4) (M 23 5)
  else if hwm (mla M a dc (n2 - dc) 16 a ||| nI 1 <<< (M 23 1 &&& 31)) = 0 then mu (mla M a dc (n2 - dc)) 16 a (mla M a dc (n2 - dc) 16 a ||| nI 1 <<< (M 23 1 &&& 31))
  else mln (mu (mla M a dc (n2 - dc)) 16 a (mla M a dc (n2 - dc) 16 a ||| nI 1 <<< (M 23 1 &&& 31))) a (mx dc n2) (M 12 a) (M 13 a)
set_option maxRecDepth 100000 in
set_option maxHeartbeats 4000000 in
theorem kk_M_comes {l : Launch} {D : va_G} {ar : Nat → ClassId} {base : Nat} {σ : mp_M} {ad : Nat → Nat → Nat} {rg : Nat → Bool} {pl : Nat → Nat} {V M : fV} {a0 b0 a n dc n2 kd : Nat} (hL : Lay ar ad rg pl V M σ) (hA : 20 * a0 + b0 = a) (ha : a0 < 25) (hb : b0 < 20) (hn : M 22 0 = nI n) (hn2 : n ≤ 100) (hdc : M 3 a = nI dc) (hdl : dc ≤ 12) (hh0 : M 23 0 = nI kd) (hk1 : 1 ≤ kd) (hk2 : kd < 7) (hh2 : M 23 2 = nI a0) (hh3 : M 23 3 = nI b0) (hh9 : M 23 9 = nI n2) (hn12 : n2 ≤ 12) (h12 : kd = 4 → ¬ mla M a dc (n2 - dc) 11 a = 0 → mx dc n2 < 12) : CN l D ar base yy_md_comes prog_9_method_18_code 8 (Option.none : Option Jvm.ClassFile.FieldType) [] 3 57 0 0 [.ref (ad 13 0)] σ (fun o σ' _ => o = .returned none ∧ Lay ar ad rg pl V (mcm M n a dc n2 kd a0 b0) σ') := by
  refine mp_in (Nat.le_of_ble_eq_true rfl) ?_
  intro p e R s m below meth c x hfr hlo hce hsl hr hlk hin hex hG hB ls H hH0 hH hS hl
  have hl : lv_has ls 8 [(0, .ref (ad 13 0))] := hl
  refine lv_aload_n x.1 x.2.1 dd_md_comes_0 rfl (lv_at hl 0 rfl) ?_
  refine mp_get x hH (la13 hL) fg_md_77 rfl dd_md_comes_1 ?_
  refine lv_iconst (v := nI 0) x.1 x.2.1 dd_md_comes_4 (by decide +kernel) ?_
  refine ka_ld x hH hL 23 (j := 0) (by decide) (by decide) (show 0 < 34 from (by omega)) (by decide) dd_md_comes_5 ?_
  refine mn_top (w := nI kd) (hh0) ?_
  refine lv_istore_n (lv' := [(1, .int (nI kd)), (0, .ref (ad 13 0))]) x.1 x.2.1 dd_md_comes_6 rfl hl (by decide) rfl (fun ls hl => ?_)
  refine lv_aload_n x.1 x.2.1 dd_md_comes_7 rfl (lv_at hl 1 rfl) ?_
  refine mp_get x hH (la13 hL) fg_md_77 rfl dd_md_comes_8 ?_
  refine lv_iconst (v := nI 1) x.1 x.2.1 dd_md_comes_11 (by decide +kernel) ?_
  refine ka_ld x hH hL 23 (j := 1) (by decide) (by decide) (show 1 < 34 from (by omega)) (by decide) dd_md_comes_12 ?_
  refine lv_istore_n (lv' := [(2, .int (M 23 1)), (1, .int (nI kd)), (0, .ref (ad 13 0))]) x.1 x.2.1 dd_md_comes_13 rfl hl (by decide) rfl (fun ls hl => ?_)
  refine lv_aload_n x.1 x.2.1 dd_md_comes_14 rfl (lv_at hl 2 rfl) ?_
  refine mp_get x hH (la13 hL) fg_md_77 rfl dd_md_comes_15 ?_
  refine lv_iconst (v := nI 2) x.1 x.2.1 dd_md_comes_18 (by decide +kernel) ?_
  refine ka_ld x hH hL 23 (j := 2) (by decide) (by decide) (show 2 < 34 from (by omega)) (by decide) dd_md_comes_19 ?_
  refine mn_top (w := nI a0) (hh2) ?_
  refine lv_istore_n (lv' := [(3, .int (nI a0)), (2, .int (M 23 1)), (1, .int (nI kd)), (0, .ref (ad 13 0))]) x.1 x.2.1 dd_md_comes_20 rfl hl (by decide) rfl (fun ls hl => ?_)
  refine lv_aload_n x.1 x.2.1 dd_md_comes_21 rfl (lv_at hl 3 rfl) ?_
  refine mp_get x hH (la13 hL) fg_md_77 rfl dd_md_comes_22 ?_
  refine lv_iconst (v := nI 3) x.1 x.2.1 dd_md_comes_25 (by decide +kernel) ?_
  refine ka_ld x hH hL 23 (j := 3) (by decide) (by decide) (show 3 < 34 from (by omega)) (by decide) dd_md_comes_26 ?_
  refine mn_top (w := nI b0) (hh3) ?_
  refine lv_istore (lv' := [(4, .int (nI b0)), (3, .int (nI a0)), (2, .int (M 23 1)), (1, .int (nI kd)), (0, .ref (ad 13 0))]) x.1 x.2.1 dd_md_comes_27 hl (by decide) rfl (fun ls hl => ?_)
  refine lv_aload_n x.1 x.2.1 dd_md_comes_29 rfl (lv_at hl 4 rfl) ?_
  refine mp_get x hH (la13 hL) fg_md_77 rfl dd_md_comes_30 ?_
  refine lv_iconst (v := nI 4) x.1 x.2.1 dd_md_comes_33 (by decide +kernel) ?_
  refine ka_ld x hH hL 23 (j := 4) (by decide) (by decide) (show 4 < 34 from (by omega)) (by decide) dd_md_comes_34 ?_
  refine lv_istore (lv' := [(5, .int (M 23 4)), (4, .int (nI b0)), (3, .int (nI a0)), (2, .int (M 23 1)), (1, .int (nI kd)), (0, .ref (ad 13 0))]) x.1 x.2.1 dd_md_comes_35 hl (by decide) rfl (fun ls hl => ?_)
  refine lv_aload_n x.1 x.2.1 dd_md_comes_37 rfl (lv_at hl 5 rfl) ?_
  refine mp_get x hH (la13 hL) fg_md_77 rfl dd_md_comes_38 ?_
  refine lv_iconst (v := nI 5) x.1 x.2.1 dd_md_comes_41 (by decide +kernel) ?_
  refine ka_ld x hH hL 23 (j := 5) (by decide) (by decide) (show 5 < 34 from (by omega)) (by decide) dd_md_comes_42 ?_
  refine lv_istore (lv' := [(6, .int (M 23 5)), (5, .int (M 23 4)), (4, .int (nI b0)), (3, .int (nI a0)), (2, .int (M 23 1)), (1, .int (nI kd)), (0, .ref (ad 13 0))]) x.1 x.2.1 dd_md_comes_43 hl (by decide) rfl (fun ls hl => ?_)
  refine lv_iload_n x.1 x.2.1 dd_md_comes_45 rfl (lv_at hl 3 rfl) ?_
  refine lv_iload x.1 x.2.1 dd_md_comes_46 (lv_at hl 2 rfl) ?_
  refine mp_call x (wt_mv base) hG hB hl.1 (mp_invS (av := [.int (nI a0), .int (nI b0)]) x mn_md_at mc_md_at (Or.inl ww_826) ww_827 ww_60 rfl dd_md_comes_48) (kk_M_at (a0 := a0) (b0 := b0)) (Nat.le_trans (Nat.le_of_ble_eq_true rfl) hfr) (Nat.le_trans (Nat.le_of_ble_eq_true rfl) hlo) (Nat.le_trans (Nat.le_of_ble_eq_true rfl) hce) (Nat.le_trans (Nat.le_of_ble_eq_true rfl) hsl) hH hS (fun v σa t0 H locs hp400 ht0 hvm hzz hH hS => ?_) (fun _ _ _ _ _ hz _ _ _ _ _ => by cases hz.1)
  obtain ⟨ho, hσ⟩ := hp400
  cases ho
  rw [hσ] at hH
  refine W.eq (g2 := F0 m 51 ls [.int (nI (20 * a0 + b0))]) rfl ?_
  refine mn_top (w := nI a) (congrArg nI hA) ?_
  refine lv_istore (lv' := [(7, .int (nI a)), (6, .int (M 23 5)), (5, .int (M 23 4)), (4, .int (nI b0)), (3, .int (nI a0)), (2, .int (M 23 1)), (1, .int (nI kd)), (0, .ref (ad 13 0))]) x.1 x.2.1 dd_md_comes_51 hl (by decide) rfl (fun ls hl => ?_)
  have loop401 : ∀ (n402 : Nat) (j : Nat) (σ : mp_M), (dc + j ≤ n2 ∨ j = 0) → Lay ar ad rg pl V (mla M a dc j) σ → n2 - (dc + j) < n402 → ∀ (ls : Array Slot) (H : Heap) (locs : List Loc), lv_has ls 8 [(0, .ref (ad 13 0)), (1, .int (nI kd)), (2, .int (M 23 1)), (3, .int (nI a0)), (4, .int (nI b0)), (5, .int (M 23 4)), (6, .int (M 23 5)), (7, .int (nI a))] → HH D base σ H → va_S (mp_A base) s.heap H locs → W p l e R s m [.ref (ad 13 0)].toArray below meth c H locs 0 0 (mp_Q below s 0 0 base (mp_P D cl_L base s (fun o σ' _ => o = .returned none ∧ Lay ar ad rg pl V (mcm M n a dc n2 kd a0 b0) σ'))) (F0 m 53 ls []) := by
    intro n402
    induction n402 with
    | zero => intro j σ hj hL hmz; exact absurd hmz (Nat.not_lt_zero _)
    | succ n402 ihloop401 =>
      intro j σ hj hL hmz ls H locs hl hH hS
      refine lv_aload_n x.1 x.2.1 dd_md_comes_53 rfl (lv_at hl 0 rfl) ?_
      refine mp_get x hH (la13 hL) fg_md_20 rfl dd_md_comes_54 ?_
      refine lv_iload x.1 x.2.1 dd_md_comes_57 (lv_at hl 7 rfl) ?_
      refine ka_ld x hH hL 3 (j := a) (by decide) (by decide) (show a < 500 from (by omega)) (by decide) dd_md_comes_59 ?_
      refine mn_top (w := nI (dc + j)) (mla_3 hdc j) ?_
      refine lv_aload_n x.1 x.2.1 dd_md_comes_60 rfl (lv_at hl 0 rfl) ?_
      refine mp_get x hH (la13 hL) fg_md_77 rfl dd_md_comes_61 ?_
      refine lv_bipush (v := nI 9) x.1 x.2.1 dd_md_comes_64 (by decide +kernel) ?_
      refine ka_ld x hH hL 23 (j := 9) (by decide) (by decide) (show 9 < 34 from (by omega)) (by decide) dd_md_comes_66 ?_
      refine mn_top (w := nI n2) ((mla_o (by decide) j).trans hh9) ?_
      refine lv_icmp_ge (tgt := 113) x.1 x.2.1 dd_md_comes_67 (by decide) (fun c403 => ?_) (fun c403 => ?_)
      · have c403 : n2 ≤ dc + j := (cv_le (a := n2) (b := dc + j) (by omega) (by omega)).mp c403
        have hje : j = n2 - dc := by omega
        have hmx : dc + j = mx dc n2 := by unfold mx; split <;> omega
        have hm12 : mx dc n2 ≤ 12 := by omega
        subst hje
        have h3a : (mla M a dc (n2 - dc)) 3 a = nI (mx dc n2) := (mla_3 hdc _).trans (congrArg nI hmx)
        have hsw : kd = 1 ∨ kd = 2 ∨ kd = 3 ∨ kd = 4 ∨ kd = 5 ∨ kd = 6 := by omega
        rcases hsw with rfl | rfl | rfl | rfl | rfl | rfl
        · skip
          refine lv_iload_n x.1 x.2.1 dd_md_comes_113 rfl (lv_at hl 1 rfl) ?_
          refine lv_iconst (v := nI 1) x.1 x.2.1 dd_md_comes_114 (by decide +kernel) ?_
          refine lv_icmp_eq (tgt := 123) x.1 x.2.1 dd_md_comes_115 (by decide) (fun c404 => ?_) (fun c404 => absurd (by decide +kernel) c404)
          refine lv_iload x.1 x.2.1 dd_md_comes_123 (lv_at hl 5 rfl) ?_
          refine lv_aload_n x.1 x.2.1 dd_md_comes_125 rfl (lv_at hl 0 rfl) ?_
          refine mp_get x hH (la13 hL) fg_md_20 rfl dd_md_comes_126 ?_
          refine lv_iload x.1 x.2.1 dd_md_comes_129 (lv_at hl 7 rfl) ?_
          refine ka_ld x hH hL 3 (j := a) (by decide) (by decide) (show a < 500 from (by omega)) (by decide) dd_md_comes_131 ?_
          refine mn_top (w := nI (mx dc n2)) (h3a) ?_
          refine lv_icmp_gt (tgt := 155) x.1 x.2.1 dd_md_comes_132 (by decide) (fun c405 => ?_) (fun c405 => ?_)
          · refine lv_iload x.1 x.2.1 dd_md_comes_155 (lv_at hl 5 rfl) ?_
            refine lv_aload_n x.1 x.2.1 dd_md_comes_157 rfl (lv_at hl 0 rfl) ?_
            refine mp_get x hH (la13 hL) fg_md_20 rfl dd_md_comes_158 ?_
            refine lv_iload x.1 x.2.1 dd_md_comes_161 (lv_at hl 7 rfl) ?_
            refine ka_ld x hH hL 3 (j := a) (by decide) (by decide) (show a < 500 from (by omega)) (by decide) dd_md_comes_163 ?_
            refine mn_top (w := nI (mx dc n2)) (h3a) ?_
            refine lv_iconst (v := nI 1) x.1 x.2.1 dd_md_comes_164 (by decide +kernel) ?_
            refine lv_iadd x.1 x.2.1 dd_md_comes_165 ?_
            refine mn_top (w := nI (mx dc n2 + 1)) (nI_add _ _) ?_
            refine lv_icmp_ne (tgt := 193) x.1 x.2.1 dd_md_comes_166 (by decide) (fun c406 => ?_) (fun c406 => ?_)
            · exact mp_rv x hr hlk (by decide) (by decide) hH hS (fun _ => ⟨rfl, by unfold mcm; rw [if_pos (by decide), if_pos c405, if_neg c406]; exact hL⟩) dd_md_comes_193
            · refine lv_aload_n x.1 x.2.1 dd_md_comes_169 rfl (lv_at hl 0 rfl) ?_
              refine lv_iload x.1 x.2.1 dd_md_comes_170 (lv_at hl 7 rfl) ?_
              refine lv_iload_n x.1 x.2.1 dd_md_comes_172 rfl (lv_at hl 1 rfl) ?_
              refine lv_iconst (v := nI 3) x.1 x.2.1 dd_md_comes_173 (by decide +kernel) ?_
              refine lv_icmp_ne (tgt := 181) x.1 x.2.1 dd_md_comes_174 (by decide) (fun c407 => ?_) (fun c407 => absurd c407 (by decide +kernel))
              refine lv_iconst (v := nI 0) x.1 x.2.1 dd_md_comes_181 (by decide +kernel) ?_
              refine lv_iload_n x.1 x.2.1 dd_md_comes_182 rfl (lv_at hl 3 rfl) ?_
              refine lv_iload_n x.1 x.2.1 dd_md_comes_183 rfl (lv_at hl 2 rfl) ?_
              refine lv_iload x.1 x.2.1 dd_md_comes_184 (lv_at hl 4 rfl) ?_
              refine lv_iload x.1 x.2.1 dd_md_comes_186 (lv_at hl 5 rfl) ?_
              refine lv_iload x.1 x.2.1 dd_md_comes_188 (lv_at hl 6 rfl) ?_
              refine mp_call x (wt_mv base) hG hB hl.1 (mp_invV (av := [.int (nI a), .int (nI 0), .int (nI a0), .int (M 23 1), .int (nI b0), .int (M 23 4), .int (M 23 5)]) x hH (la13 hL) rfl rfl mn_md_answers mc_md_answers (Or.inl ww_865) ww_867 ww_49 rfl dd_md_comes_190) (kk_M_answers0 (a := a) (n := n) (dc := mx dc n2) hL hA (by omega) (by omega) ((mla_o (by decide) _).trans hn) (by omega) (h3a) (by omega)) (Nat.le_trans (Nat.le_of_ble_eq_true rfl) hfr) (Nat.le_trans (Nat.le_of_ble_eq_true rfl) hlo) (Nat.le_trans (Nat.le_of_ble_eq_true rfl) hce) (Nat.le_trans (Nat.le_of_ble_eq_true rfl) hsl) hH hS (fun v σa t0 H locs hp408 ht0 hvm hzz hH hS => ?_) (fun _ _ _ _ _ hz _ _ _ _ _ => by cases hz.1)
              obtain ⟨ho, hL⟩ := hp408
              cases ho
              refine W.eq (g2 := F0 m 193 ls []) rfl ?_
              exact mp_rv x hr hlk (by decide) (by decide) hH hS (fun _ => ⟨rfl, by unfold mcm; rw [if_pos (by decide), if_pos c405, if_pos c406, if_neg (by decide)]; exact hL⟩) dd_md_comes_193
          · refine lv_aload_n x.1 x.2.1 dd_md_comes_135 rfl (lv_at hl 0 rfl) ?_
            refine lv_bipush (v := nI 6) x.1 x.2.1 dd_md_comes_136 (by decide +kernel) ?_
            refine lv_iload_n x.1 x.2.1 dd_md_comes_138 rfl (lv_at hl 3 rfl) ?_
            refine lv_iload_n x.1 x.2.1 dd_md_comes_139 rfl (lv_at hl 2 rfl) ?_
            refine lv_iload x.1 x.2.1 dd_md_comes_140 (lv_at hl 4 rfl) ?_
            refine lv_iload x.1 x.2.1 dd_md_comes_142 (lv_at hl 5 rfl) ?_
            refine lv_iload x.1 x.2.1 dd_md_comes_144 (lv_at hl 6 rfl) ?_
            refine lv_iconst (v := nI 0) x.1 x.2.1 dd_md_comes_146 (by decide +kernel) ?_
            refine lv_iconst (v := (-1)) x.1 x.2.1 dd_md_comes_147 (by decide +kernel) ?_
            refine lv_iconst (v := (-1)) x.1 x.2.1 dd_md_comes_148 (by decide +kernel) ?_
            refine mp_call x (wt_mv base) hG hB hl.1 (mp_invV (av := [.int (nI 6), .int (nI a0), .int (M 23 1), .int (nI b0), .int (M 23 4), .int (M 23 5), .int (nI 0), .int (-1), .int (-1)]) x hH (la13 hL) rfl rfl mn_md_send mc_md_send (Or.inl ww_837) ww_839 ww_44 rfl dd_md_comes_149) (kk_M_send (a := a) (n := n) (dc := mx dc n2) hL hA (by omega) (by omega) ((mla_o (by decide) _).trans hn) (by omega) (h3a) (by omega)) (Nat.le_trans (Nat.le_of_ble_eq_true rfl) hfr) (Nat.le_trans (Nat.le_of_ble_eq_true rfl) hlo) (Nat.le_trans (Nat.le_of_ble_eq_true rfl) hce) (Nat.le_trans (Nat.le_of_ble_eq_true rfl) hsl) hH hS (fun v σa t0 H locs hp409 ht0 hvm hzz hH hS => ?_) (fun _ _ _ _ _ hz _ _ _ _ _ => by cases hz.1)
            obtain ⟨ho, hL⟩ := hp409
            cases ho
            refine W.eq (g2 := F0 m 152 ls []) rfl ?_
            refine lv_goto (tgt := 193) x.1 x.2.1 dd_md_comes_152 (by decide) ?_
            exact mp_rv x hr hlk (by decide) (by decide) hH hS (fun _ => ⟨rfl, by unfold mcm; rw [if_pos (by decide), if_neg (Int32.not_lt.mpr (Int32.not_lt.mp c405))]; exact hL⟩) dd_md_comes_193
        · skip
          refine lv_iload_n x.1 x.2.1 dd_md_comes_113 rfl (lv_at hl 1 rfl) ?_
          refine lv_iconst (v := nI 1) x.1 x.2.1 dd_md_comes_114 (by decide +kernel) ?_
          refine lv_icmp_eq (tgt := 123) x.1 x.2.1 dd_md_comes_115 (by decide) (fun c410 => absurd c410 (by decide +kernel)) (fun c410 => ?_)
          refine lv_iload_n x.1 x.2.1 dd_md_comes_118 rfl (lv_at hl 1 rfl) ?_
          refine lv_iconst (v := nI 3) x.1 x.2.1 dd_md_comes_119 (by decide +kernel) ?_
          refine lv_icmp_ne (tgt := 194) x.1 x.2.1 dd_md_comes_120 (by decide) (fun c411 => ?_) (fun c411 => absurd c411 (by decide +kernel))
          refine lv_iload_n x.1 x.2.1 dd_md_comes_194 rfl (lv_at hl 1 rfl) ?_
          refine lv_bipush (v := nI 6) x.1 x.2.1 dd_md_comes_195 (by decide +kernel) ?_
          refine lv_icmp_eq (tgt := 222) x.1 x.2.1 dd_md_comes_197 (by decide) (fun c412 => absurd c412 (by decide +kernel)) (fun c412 => ?_)
          refine lv_aload_n x.1 x.2.1 dd_md_comes_200 rfl (lv_at hl 0 rfl) ?_
          refine mp_get x hH (la13 hL) fg_md_44 rfl dd_md_comes_201 ?_
          refine lv_iload x.1 x.2.1 dd_md_comes_204 (lv_at hl 7 rfl) ?_
          refine ka_ld x hH hL 11 (j := a) (by decide) (by decide) (show a < 500 from (by omega)) (by decide) dd_md_comes_206 ?_
          refine lv_if_eq (tgt := 222) x.1 x.2.1 dd_md_comes_207 (by decide) (fun c413 => ?_) (fun c413 => ?_)
          · exact mp_rv x hr hlk (by decide) (by decide) hH hS (fun _ => ⟨rfl, by unfold mcm; rw [if_neg (by decide), if_pos (Or.inr (Or.inl c413))]; exact hL⟩) dd_md_comes_222
          · refine lv_aload_n x.1 x.2.1 dd_md_comes_210 rfl (lv_at hl 0 rfl) ?_
            refine mp_get x hH (la13 hL) fg_md_44 rfl dd_md_comes_211 ?_
            refine lv_iload x.1 x.2.1 dd_md_comes_214 (lv_at hl 7 rfl) ?_
            refine ka_ld x hH hL 11 (j := a) (by decide) (by decide) (show a < 500 from (by omega)) (by decide) dd_md_comes_216 ?_
            refine lv_iload x.1 x.2.1 dd_md_comes_217 (lv_at hl 5 rfl) ?_
            refine lv_icmp_eq (tgt := 223) x.1 x.2.1 dd_md_comes_219 (by decide) (fun c414 => ?_) (fun c414 => ?_)
            · refine lv_iload_n x.1 x.2.1 dd_md_comes_223 rfl (lv_at hl 1 rfl) ?_
              refine lv_iconst (v := nI 5) x.1 x.2.1 dd_md_comes_224 (by decide +kernel) ?_
              refine lv_icmp_ne (tgt := 260) x.1 x.2.1 dd_md_comes_225 (by decide) (fun c415 => ?_) (fun c415 => absurd c415 (by decide +kernel))
              refine lv_iload x.1 x.2.1 dd_md_comes_260 (lv_at hl 6 rfl) ?_
              refine lv_aload_n x.1 x.2.1 dd_md_comes_262 rfl (lv_at hl 0 rfl) ?_
              refine mp_get x hH (la13 hL) fg_md_53 rfl dd_md_comes_263 ?_
              refine lv_iload x.1 x.2.1 dd_md_comes_266 (lv_at hl 7 rfl) ?_
              refine ka_ld x hH hL 14 (j := a) (by decide) (by decide) (show a < 500 from (by omega)) (by decide) dd_md_comes_268 ?_
              refine lv_icmp_ne (tgt := 292) x.1 x.2.1 dd_md_comes_269 (by decide) (fun c416 => ?_) (fun c416 => ?_)
              · exact mp_rv x hr hlk (by decide) (by decide) hH hS (fun _ => ⟨rfl, by unfold mcm; rw [if_neg (by decide), if_neg (fun z => z.elim (by decide) (fun z => z.elim c413 (fun z => z c414))), if_neg (by decide), if_pos (Or.inl c416)]; exact hL⟩) dd_md_comes_292
              · refine lv_aload_n x.1 x.2.1 dd_md_comes_272 rfl (lv_at hl 0 rfl) ?_
                refine mp_get x hH (la13 hL) fg_md_56 rfl dd_md_comes_273 ?_
                refine lv_iload x.1 x.2.1 dd_md_comes_276 (lv_at hl 7 rfl) ?_
                refine ka_ld x hH hL 15 (j := a) (by decide) (by decide) (show a < 500 from (by omega)) (by decide) dd_md_comes_278 ?_
                refine lv_iload_n x.1 x.2.1 dd_md_comes_279 rfl (lv_at hl 1 rfl) ?_
                refine lv_iconst (v := nI 2) x.1 x.2.1 dd_md_comes_280 (by decide +kernel) ?_
                refine lv_icmp_ne (tgt := 288) x.1 x.2.1 dd_md_comes_281 (by decide) (fun c417 => absurd (by decide +kernel) c417) (fun c417 => ?_)
                refine lv_iconst (v := nI 1) x.1 x.2.1 dd_md_comes_284 (by decide +kernel) ?_
                refine lv_goto (tgt := 289) x.1 x.2.1 dd_md_comes_285 (by decide) ?_
                refine lv_icmp_eq (tgt := 293) x.1 x.2.1 dd_md_comes_289 (by decide) (fun c418 => ?_) (fun c418 => ?_)
                · refine lv_aload_n x.1 x.2.1 dd_md_comes_293 rfl (lv_at hl 0 rfl) ?_
                  refine mp_get x hH (la13 hL) fg_md_59 rfl dd_md_comes_294 ?_
                  refine lv_iload x.1 x.2.1 dd_md_comes_297 (lv_at hl 7 rfl) ?_
                  refine lv_dup2_11 x.1 x.2.1 dd_md_comes_299 rfl rfl ?_
                  refine ka_ld x hH hL 16 (j := a) (by decide) (by decide) (show a < 500 from (by omega)) (by decide) dd_md_comes_300 ?_
                  refine lv_iconst (v := nI 1) x.1 x.2.1 dd_md_comes_301 (by decide +kernel) ?_
                  refine lv_iload_n x.1 x.2.1 dd_md_comes_302 rfl (lv_at hl 2 rfl) ?_
                  refine lv_ishl x.1 x.2.1 dd_md_comes_303 ?_
                  refine lv_ior x.1 x.2.1 dd_md_comes_304 ?_
                  refine ka_st x hH hS hL 16 (j := a) (by decide) (by decide) (show a < 500 from (by omega)) (by decide) dd_md_comes_305 (fun σ hL H locs hH hS => ?_)
                  refine lv_iload_n x.1 x.2.1 dd_md_comes_306 rfl (lv_at hl 1 rfl) ?_
                  refine lv_iconst (v := nI 2) x.1 x.2.1 dd_md_comes_307 (by decide +kernel) ?_
                  refine lv_icmp_ne (tgt := 327) x.1 x.2.1 dd_md_comes_308 (by decide) (fun c419 => absurd (by decide +kernel) c419) (fun c419 => ?_)
                  refine lv_aload_n x.1 x.2.1 dd_md_comes_311 rfl (lv_at hl 0 rfl) ?_
                  refine lv_iload x.1 x.2.1 dd_md_comes_312 (lv_at hl 7 rfl) ?_
                  refine lv_iload_n x.1 x.2.1 dd_md_comes_314 rfl (lv_at hl 3 rfl) ?_
                  refine lv_iload x.1 x.2.1 dd_md_comes_315 (lv_at hl 4 rfl) ?_
                  refine lv_iload x.1 x.2.1 dd_md_comes_317 (lv_at hl 5 rfl) ?_
                  refine lv_iload x.1 x.2.1 dd_md_comes_319 (lv_at hl 6 rfl) ?_
                  refine mp_call x (wt_mv base) hG hB hl.1 (mp_invV (av := [.int (nI a), .int (nI a0), .int (nI b0), .int (M 23 4), .int (M 23 5)]) x hH (la13 hL) rfl rfl mn_md_promisedBy mc_md_promisedBy (Or.inl ww_869) ww_871 ww_50 rfl dd_md_comes_321) (kk_M_promisedBy (a := a) (n := n) (dc := mx dc n2) hL hA (by omega) (by omega) ((mu_k (by decide)).trans ((mla_o (by decide) _).trans hn)) (by omega) ((mu_k (by decide)).trans (h3a)) (by omega)) (Nat.le_trans (Nat.le_of_ble_eq_true rfl) hfr) (Nat.le_trans (Nat.le_of_ble_eq_true rfl) hlo) (Nat.le_trans (Nat.le_of_ble_eq_true rfl) hce) (Nat.le_trans (Nat.le_of_ble_eq_true rfl) hsl) hH hS (fun v σa t0 H locs hp420 ht0 hvm hzz hH hS => ?_) (fun _ _ _ _ _ hz _ _ _ _ _ => by cases hz.1)
                  obtain ⟨ho, hL⟩ := hp420
                  cases ho
                  refine W.eq (g2 := F0 m 324 ls []) rfl ?_
                  refine lv_goto (tgt := 361) x.1 x.2.1 dd_md_comes_324 (by decide) ?_
                  exact mp_rv x hr hlk (by decide) (by decide) hH hS (fun _ => ⟨rfl, by unfold mcm; rw [if_neg (by decide), if_neg (fun z => z.elim (by decide) (fun z => z.elim c413 (fun z => z c414))), if_neg (by decide), if_neg (fun z => z.elim (fun z => z c416) (fun z => z c418)), if_pos rfl]; exact hL⟩) dd_md_comes_361
                · exact mp_rv x hr hlk (by decide) (by decide) hH hS (fun _ => ⟨rfl, by unfold mcm; rw [if_neg (by decide), if_neg (fun z => z.elim (by decide) (fun z => z.elim c413 (fun z => z c414))), if_neg (by decide), if_pos (Or.inr (show ¬ mla M a dc (n2 - dc) 15 a = (if 2 = 2 then nI 1 else nI 2) from c418))]; exact hL⟩) dd_md_comes_292
            · exact mp_rv x hr hlk (by decide) (by decide) hH hS (fun _ => ⟨rfl, by unfold mcm; rw [if_neg (by decide), if_pos (Or.inr (Or.inr c414))]; exact hL⟩) dd_md_comes_222
        · skip
          refine lv_iload_n x.1 x.2.1 dd_md_comes_113 rfl (lv_at hl 1 rfl) ?_
          refine lv_iconst (v := nI 1) x.1 x.2.1 dd_md_comes_114 (by decide +kernel) ?_
          refine lv_icmp_eq (tgt := 123) x.1 x.2.1 dd_md_comes_115 (by decide) (fun c421 => absurd c421 (by decide +kernel)) (fun c421 => ?_)
          refine lv_iload_n x.1 x.2.1 dd_md_comes_118 rfl (lv_at hl 1 rfl) ?_
          refine lv_iconst (v := nI 3) x.1 x.2.1 dd_md_comes_119 (by decide +kernel) ?_
          refine lv_icmp_ne (tgt := 194) x.1 x.2.1 dd_md_comes_120 (by decide) (fun c422 => absurd (by decide +kernel) c422) (fun c422 => ?_)
          refine lv_iload x.1 x.2.1 dd_md_comes_123 (lv_at hl 5 rfl) ?_
          refine lv_aload_n x.1 x.2.1 dd_md_comes_125 rfl (lv_at hl 0 rfl) ?_
          refine mp_get x hH (la13 hL) fg_md_20 rfl dd_md_comes_126 ?_
          refine lv_iload x.1 x.2.1 dd_md_comes_129 (lv_at hl 7 rfl) ?_
          refine ka_ld x hH hL 3 (j := a) (by decide) (by decide) (show a < 500 from (by omega)) (by decide) dd_md_comes_131 ?_
          refine mn_top (w := nI (mx dc n2)) (h3a) ?_
          refine lv_icmp_gt (tgt := 155) x.1 x.2.1 dd_md_comes_132 (by decide) (fun c423 => ?_) (fun c423 => ?_)
          · refine lv_iload x.1 x.2.1 dd_md_comes_155 (lv_at hl 5 rfl) ?_
            refine lv_aload_n x.1 x.2.1 dd_md_comes_157 rfl (lv_at hl 0 rfl) ?_
            refine mp_get x hH (la13 hL) fg_md_20 rfl dd_md_comes_158 ?_
            refine lv_iload x.1 x.2.1 dd_md_comes_161 (lv_at hl 7 rfl) ?_
            refine ka_ld x hH hL 3 (j := a) (by decide) (by decide) (show a < 500 from (by omega)) (by decide) dd_md_comes_163 ?_
            refine mn_top (w := nI (mx dc n2)) (h3a) ?_
            refine lv_iconst (v := nI 1) x.1 x.2.1 dd_md_comes_164 (by decide +kernel) ?_
            refine lv_iadd x.1 x.2.1 dd_md_comes_165 ?_
            refine mn_top (w := nI (mx dc n2 + 1)) (nI_add _ _) ?_
            refine lv_icmp_ne (tgt := 193) x.1 x.2.1 dd_md_comes_166 (by decide) (fun c424 => ?_) (fun c424 => ?_)
            · exact mp_rv x hr hlk (by decide) (by decide) hH hS (fun _ => ⟨rfl, by unfold mcm; rw [if_pos (by decide), if_pos c423, if_neg c424]; exact hL⟩) dd_md_comes_193
            · refine lv_aload_n x.1 x.2.1 dd_md_comes_169 rfl (lv_at hl 0 rfl) ?_
              refine lv_iload x.1 x.2.1 dd_md_comes_170 (lv_at hl 7 rfl) ?_
              refine lv_iload_n x.1 x.2.1 dd_md_comes_172 rfl (lv_at hl 1 rfl) ?_
              refine lv_iconst (v := nI 3) x.1 x.2.1 dd_md_comes_173 (by decide +kernel) ?_
              refine lv_icmp_ne (tgt := 181) x.1 x.2.1 dd_md_comes_174 (by decide) (fun c425 => absurd (by decide +kernel) c425) (fun c425 => ?_)
              refine lv_iconst (v := nI 1) x.1 x.2.1 dd_md_comes_177 (by decide +kernel) ?_
              refine lv_goto (tgt := 182) x.1 x.2.1 dd_md_comes_178 (by decide) ?_
              refine lv_iload_n x.1 x.2.1 dd_md_comes_182 rfl (lv_at hl 3 rfl) ?_
              refine lv_iload_n x.1 x.2.1 dd_md_comes_183 rfl (lv_at hl 2 rfl) ?_
              refine lv_iload x.1 x.2.1 dd_md_comes_184 (lv_at hl 4 rfl) ?_
              refine lv_iload x.1 x.2.1 dd_md_comes_186 (lv_at hl 5 rfl) ?_
              refine lv_iload x.1 x.2.1 dd_md_comes_188 (lv_at hl 6 rfl) ?_
              refine mp_call x (wt_mv base) hG hB hl.1 (mp_invV (av := [.int (nI a), .int (nI 1), .int (nI a0), .int (M 23 1), .int (nI b0), .int (M 23 4), .int (M 23 5)]) x hH (la13 hL) rfl rfl mn_md_answers mc_md_answers (Or.inl ww_865) ww_867 ww_49 rfl dd_md_comes_190) (kk_M_answers1 (a := a) (n := n) (dc := mx dc n2) hL hA (by omega) (by omega) ((mla_o (by decide) _).trans hn) (by omega) (h3a) (by omega)) (Nat.le_trans (Nat.le_of_ble_eq_true rfl) hfr) (Nat.le_trans (Nat.le_of_ble_eq_true rfl) hlo) (Nat.le_trans (Nat.le_of_ble_eq_true rfl) hce) (Nat.le_trans (Nat.le_of_ble_eq_true rfl) hsl) hH hS (fun v σa t0 H locs hp426 ht0 hvm hzz hH hS => ?_) (fun _ _ _ _ _ hz _ _ _ _ _ => by cases hz.1)
              obtain ⟨ho, hL⟩ := hp426
              cases ho
              refine W.eq (g2 := F0 m 193 ls []) rfl ?_
              exact mp_rv x hr hlk (by decide) (by decide) hH hS (fun _ => ⟨rfl, by unfold mcm; rw [if_pos (by decide), if_pos c423, if_pos c424, if_pos rfl]; exact hL⟩) dd_md_comes_193
          · refine lv_aload_n x.1 x.2.1 dd_md_comes_135 rfl (lv_at hl 0 rfl) ?_
            refine lv_bipush (v := nI 6) x.1 x.2.1 dd_md_comes_136 (by decide +kernel) ?_
            refine lv_iload_n x.1 x.2.1 dd_md_comes_138 rfl (lv_at hl 3 rfl) ?_
            refine lv_iload_n x.1 x.2.1 dd_md_comes_139 rfl (lv_at hl 2 rfl) ?_
            refine lv_iload x.1 x.2.1 dd_md_comes_140 (lv_at hl 4 rfl) ?_
            refine lv_iload x.1 x.2.1 dd_md_comes_142 (lv_at hl 5 rfl) ?_
            refine lv_iload x.1 x.2.1 dd_md_comes_144 (lv_at hl 6 rfl) ?_
            refine lv_iconst (v := nI 0) x.1 x.2.1 dd_md_comes_146 (by decide +kernel) ?_
            refine lv_iconst (v := (-1)) x.1 x.2.1 dd_md_comes_147 (by decide +kernel) ?_
            refine lv_iconst (v := (-1)) x.1 x.2.1 dd_md_comes_148 (by decide +kernel) ?_
            refine mp_call x (wt_mv base) hG hB hl.1 (mp_invV (av := [.int (nI 6), .int (nI a0), .int (M 23 1), .int (nI b0), .int (M 23 4), .int (M 23 5), .int (nI 0), .int (-1), .int (-1)]) x hH (la13 hL) rfl rfl mn_md_send mc_md_send (Or.inl ww_837) ww_839 ww_44 rfl dd_md_comes_149) (kk_M_send (a := a) (n := n) (dc := mx dc n2) hL hA (by omega) (by omega) ((mla_o (by decide) _).trans hn) (by omega) (h3a) (by omega)) (Nat.le_trans (Nat.le_of_ble_eq_true rfl) hfr) (Nat.le_trans (Nat.le_of_ble_eq_true rfl) hlo) (Nat.le_trans (Nat.le_of_ble_eq_true rfl) hce) (Nat.le_trans (Nat.le_of_ble_eq_true rfl) hsl) hH hS (fun v σa t0 H locs hp427 ht0 hvm hzz hH hS => ?_) (fun _ _ _ _ _ hz _ _ _ _ _ => by cases hz.1)
            obtain ⟨ho, hL⟩ := hp427
            cases ho
            refine W.eq (g2 := F0 m 152 ls []) rfl ?_
            refine lv_goto (tgt := 193) x.1 x.2.1 dd_md_comes_152 (by decide) ?_
            exact mp_rv x hr hlk (by decide) (by decide) hH hS (fun _ => ⟨rfl, by unfold mcm; rw [if_pos (by decide), if_neg (Int32.not_lt.mpr (Int32.not_lt.mp c423))]; exact hL⟩) dd_md_comes_193
        · skip
          refine lv_iload_n x.1 x.2.1 dd_md_comes_113 rfl (lv_at hl 1 rfl) ?_
          refine lv_iconst (v := nI 1) x.1 x.2.1 dd_md_comes_114 (by decide +kernel) ?_
          refine lv_icmp_eq (tgt := 123) x.1 x.2.1 dd_md_comes_115 (by decide) (fun c428 => absurd c428 (by decide +kernel)) (fun c428 => ?_)
          refine lv_iload_n x.1 x.2.1 dd_md_comes_118 rfl (lv_at hl 1 rfl) ?_
          refine lv_iconst (v := nI 3) x.1 x.2.1 dd_md_comes_119 (by decide +kernel) ?_
          refine lv_icmp_ne (tgt := 194) x.1 x.2.1 dd_md_comes_120 (by decide) (fun c429 => ?_) (fun c429 => absurd c429 (by decide +kernel))
          refine lv_iload_n x.1 x.2.1 dd_md_comes_194 rfl (lv_at hl 1 rfl) ?_
          refine lv_bipush (v := nI 6) x.1 x.2.1 dd_md_comes_195 (by decide +kernel) ?_
          refine lv_icmp_eq (tgt := 222) x.1 x.2.1 dd_md_comes_197 (by decide) (fun c430 => absurd c430 (by decide +kernel)) (fun c430 => ?_)
          refine lv_aload_n x.1 x.2.1 dd_md_comes_200 rfl (lv_at hl 0 rfl) ?_
          refine mp_get x hH (la13 hL) fg_md_44 rfl dd_md_comes_201 ?_
          refine lv_iload x.1 x.2.1 dd_md_comes_204 (lv_at hl 7 rfl) ?_
          refine ka_ld x hH hL 11 (j := a) (by decide) (by decide) (show a < 500 from (by omega)) (by decide) dd_md_comes_206 ?_
          refine lv_if_eq (tgt := 222) x.1 x.2.1 dd_md_comes_207 (by decide) (fun c431 => ?_) (fun c431 => ?_)
          · exact mp_rv x hr hlk (by decide) (by decide) hH hS (fun _ => ⟨rfl, by unfold mcm; rw [if_neg (by decide), if_pos (Or.inr (Or.inl c431))]; exact hL⟩) dd_md_comes_222
          · have hm11 := h12 rfl c431
            refine lv_aload_n x.1 x.2.1 dd_md_comes_210 rfl (lv_at hl 0 rfl) ?_
            refine mp_get x hH (la13 hL) fg_md_44 rfl dd_md_comes_211 ?_
            refine lv_iload x.1 x.2.1 dd_md_comes_214 (lv_at hl 7 rfl) ?_
            refine ka_ld x hH hL 11 (j := a) (by decide) (by decide) (show a < 500 from (by omega)) (by decide) dd_md_comes_216 ?_
            refine lv_iload x.1 x.2.1 dd_md_comes_217 (lv_at hl 5 rfl) ?_
            refine lv_icmp_eq (tgt := 223) x.1 x.2.1 dd_md_comes_219 (by decide) (fun c432 => ?_) (fun c432 => ?_)
            · refine lv_iload_n x.1 x.2.1 dd_md_comes_223 rfl (lv_at hl 1 rfl) ?_
              refine lv_iconst (v := nI 5) x.1 x.2.1 dd_md_comes_224 (by decide +kernel) ?_
              refine lv_icmp_ne (tgt := 260) x.1 x.2.1 dd_md_comes_225 (by decide) (fun c433 => ?_) (fun c433 => absurd c433 (by decide +kernel))
              refine lv_iload x.1 x.2.1 dd_md_comes_260 (lv_at hl 6 rfl) ?_
              refine lv_aload_n x.1 x.2.1 dd_md_comes_262 rfl (lv_at hl 0 rfl) ?_
              refine mp_get x hH (la13 hL) fg_md_53 rfl dd_md_comes_263 ?_
              refine lv_iload x.1 x.2.1 dd_md_comes_266 (lv_at hl 7 rfl) ?_
              refine ka_ld x hH hL 14 (j := a) (by decide) (by decide) (show a < 500 from (by omega)) (by decide) dd_md_comes_268 ?_
              refine lv_icmp_ne (tgt := 292) x.1 x.2.1 dd_md_comes_269 (by decide) (fun c434 => ?_) (fun c434 => ?_)
              · exact mp_rv x hr hlk (by decide) (by decide) hH hS (fun _ => ⟨rfl, by unfold mcm; rw [if_neg (by decide), if_neg (fun z => z.elim (by decide) (fun z => z.elim c431 (fun z => z c432))), if_neg (by decide), if_pos (Or.inl c434)]; exact hL⟩) dd_md_comes_292
              · refine lv_aload_n x.1 x.2.1 dd_md_comes_272 rfl (lv_at hl 0 rfl) ?_
                refine mp_get x hH (la13 hL) fg_md_56 rfl dd_md_comes_273 ?_
                refine lv_iload x.1 x.2.1 dd_md_comes_276 (lv_at hl 7 rfl) ?_
                refine ka_ld x hH hL 15 (j := a) (by decide) (by decide) (show a < 500 from (by omega)) (by decide) dd_md_comes_278 ?_
                refine lv_iload_n x.1 x.2.1 dd_md_comes_279 rfl (lv_at hl 1 rfl) ?_
                refine lv_iconst (v := nI 2) x.1 x.2.1 dd_md_comes_280 (by decide +kernel) ?_
                refine lv_icmp_ne (tgt := 288) x.1 x.2.1 dd_md_comes_281 (by decide) (fun c435 => ?_) (fun c435 => absurd c435 (by decide +kernel))
                refine lv_iconst (v := nI 2) x.1 x.2.1 dd_md_comes_288 (by decide +kernel) ?_
                refine lv_icmp_eq (tgt := 293) x.1 x.2.1 dd_md_comes_289 (by decide) (fun c436 => ?_) (fun c436 => ?_)
                · refine lv_aload_n x.1 x.2.1 dd_md_comes_293 rfl (lv_at hl 0 rfl) ?_
                  refine mp_get x hH (la13 hL) fg_md_59 rfl dd_md_comes_294 ?_
                  refine lv_iload x.1 x.2.1 dd_md_comes_297 (lv_at hl 7 rfl) ?_
                  refine lv_dup2_11 x.1 x.2.1 dd_md_comes_299 rfl rfl ?_
                  refine ka_ld x hH hL 16 (j := a) (by decide) (by decide) (show a < 500 from (by omega)) (by decide) dd_md_comes_300 ?_
                  refine lv_iconst (v := nI 1) x.1 x.2.1 dd_md_comes_301 (by decide +kernel) ?_
                  refine lv_iload_n x.1 x.2.1 dd_md_comes_302 rfl (lv_at hl 2 rfl) ?_
                  refine lv_ishl x.1 x.2.1 dd_md_comes_303 ?_
                  refine lv_ior x.1 x.2.1 dd_md_comes_304 ?_
                  refine ka_st x hH hS hL 16 (j := a) (by decide) (by decide) (show a < 500 from (by omega)) (by decide) dd_md_comes_305 (fun σ hL H locs hH hS => ?_)
                  refine lv_iload_n x.1 x.2.1 dd_md_comes_306 rfl (lv_at hl 1 rfl) ?_
                  refine lv_iconst (v := nI 2) x.1 x.2.1 dd_md_comes_307 (by decide +kernel) ?_
                  refine lv_icmp_ne (tgt := 327) x.1 x.2.1 dd_md_comes_308 (by decide) (fun c437 => ?_) (fun c437 => absurd c437 (by decide +kernel))
                  refine lv_aload_n x.1 x.2.1 dd_md_comes_327 rfl (lv_at hl 0 rfl) ?_
                  refine lv_aload_n x.1 x.2.1 dd_md_comes_328 rfl (lv_at hl 0 rfl) ?_
                  refine mp_get x hH (la13 hL) fg_md_59 rfl dd_md_comes_329 ?_
                  refine lv_iload x.1 x.2.1 dd_md_comes_332 (lv_at hl 7 rfl) ?_
                  refine ka_ld x hH hL 16 (j := a) (by decide) (by decide) (show a < 500 from (by omega)) (by decide) dd_md_comes_334 ?_
                  refine mn_top (w := ((mla M a dc (n2 - dc)) 16 a) ||| ((nI 1) <<< ((M 23 1) &&& 31))) (mu_s) ?_
                  refine mp_call x (wt_mv base) hG hB hl.1 (mp_invV (av := [.int (((mla M a dc (n2 - dc)) 16 a) ||| ((nI 1) <<< ((M 23 1) &&& 31)))]) x hH (la13 hL) rfl rfl mn_md_hasWholeColumn mc_md_hasWholeColumn (Or.inl ww_877) ww_879 ww_52 rfl dd_md_comes_335) (kk_M_hwc hL) (Nat.le_trans (Nat.le_of_ble_eq_true rfl) hfr) (Nat.le_trans (Nat.le_of_ble_eq_true rfl) hlo) (Nat.le_trans (Nat.le_of_ble_eq_true rfl) hce) (Nat.le_trans (Nat.le_of_ble_eq_true rfl) hsl) hH hS (fun v σa t0 H locs hp438 ht0 hvm hzz hH hS => ?_) (fun _ _ _ _ _ hz _ _ _ _ _ => by cases hz.1)
                  obtain ⟨ho, hL⟩ := hp438
                  cases ho
                  refine W.eq (g2 := F0 m 338 ls [.int (hwm (((mla M a dc (n2 - dc)) 16 a) ||| ((nI 1) <<< ((M 23 1) &&& 31))))]) rfl ?_
                  refine lv_if_eq (tgt := 361) x.1 x.2.1 dd_md_comes_338 (by decide) (fun c439 => ?_) (fun c439 => ?_)
                  · exact mp_rv x hr hlk (by decide) (by decide) hH hS (fun _ => ⟨rfl, by unfold mcm; rw [if_neg (by decide), if_neg (fun z => z.elim (by decide) (fun z => z.elim c431 (fun z => z c432))), if_neg (by decide), if_neg (fun z => z.elim (fun z => z c434) (fun z => z c436)), if_neg (by decide), if_pos c439]; exact hL⟩) dd_md_comes_361
                  · refine lv_aload_n x.1 x.2.1 dd_md_comes_341 rfl (lv_at hl 0 rfl) ?_
                    refine lv_iload x.1 x.2.1 dd_md_comes_342 (lv_at hl 7 rfl) ?_
                    refine lv_aload_n x.1 x.2.1 dd_md_comes_344 rfl (lv_at hl 0 rfl) ?_
                    refine mp_get x hH (la13 hL) fg_md_47 rfl dd_md_comes_345 ?_
                    refine lv_iload x.1 x.2.1 dd_md_comes_348 (lv_at hl 7 rfl) ?_
                    refine ka_ld x hH hL 12 (j := a) (by decide) (by decide) (show a < 500 from (by omega)) (by decide) dd_md_comes_350 ?_
                    refine mn_top (w := M 12 a) ((mu_k (by decide)).trans (mla_o (by decide) _)) ?_
                    refine lv_aload_n x.1 x.2.1 dd_md_comes_351 rfl (lv_at hl 0 rfl) ?_
                    refine mp_get x hH (la13 hL) fg_md_50 rfl dd_md_comes_352 ?_
                    refine lv_iload x.1 x.2.1 dd_md_comes_355 (lv_at hl 7 rfl) ?_
                    refine ka_ld x hH hL 13 (j := a) (by decide) (by decide) (show a < 500 from (by omega)) (by decide) dd_md_comes_357 ?_
                    refine mn_top (w := M 13 a) ((mu_k (by decide)).trans (mla_o (by decide) _)) ?_
                    refine mp_call x (wt_mv base) hG hB hl.1 (mp_invV (av := [.int (nI a), .int (M 12 a), .int (M 13 a)]) x hH (la13 hL) rfl rfl mn_md_learn mc_md_learn (Or.inl ww_861) ww_863 ww_48 rfl dd_md_comes_358) (kk_M_learn (a := a) (dc := mx dc n2) hL (by omega) ((mu_k (by decide)).trans (h3a)) (by omega)) (Nat.le_trans (Nat.le_of_ble_eq_true rfl) hfr) (Nat.le_trans (Nat.le_of_ble_eq_true rfl) hlo) (Nat.le_trans (Nat.le_of_ble_eq_true rfl) hce) (Nat.le_trans (Nat.le_of_ble_eq_true rfl) hsl) hH hS (fun v σa t0 H locs hp440 ht0 hvm hzz hH hS => ?_) (fun _ _ _ _ _ hz _ _ _ _ _ => by cases hz.1)
                    obtain ⟨ho, hL⟩ := hp440
                    cases ho
                    refine W.eq (g2 := F0 m 361 ls []) rfl ?_
                    exact mp_rv x hr hlk (by decide) (by decide) hH hS (fun _ => ⟨rfl, by unfold mcm; rw [if_neg (by decide), if_neg (fun z => z.elim (by decide) (fun z => z.elim c431 (fun z => z c432))), if_neg (by decide), if_neg (fun z => z.elim (fun z => z c434) (fun z => z c436)), if_neg (by decide), if_neg c439]; exact hL⟩) dd_md_comes_361
                · exact mp_rv x hr hlk (by decide) (by decide) hH hS (fun _ => ⟨rfl, by unfold mcm; rw [if_neg (by decide), if_neg (fun z => z.elim (by decide) (fun z => z.elim c431 (fun z => z c432))), if_neg (by decide), if_pos (Or.inr (show ¬ mla M a dc (n2 - dc) 15 a = (if 4 = 2 then nI 1 else nI 2) from c436))]; exact hL⟩) dd_md_comes_292
            · exact mp_rv x hr hlk (by decide) (by decide) hH hS (fun _ => ⟨rfl, by unfold mcm; rw [if_neg (by decide), if_pos (Or.inr (Or.inr c432))]; exact hL⟩) dd_md_comes_222
        · skip
          refine lv_iload_n x.1 x.2.1 dd_md_comes_113 rfl (lv_at hl 1 rfl) ?_
          refine lv_iconst (v := nI 1) x.1 x.2.1 dd_md_comes_114 (by decide +kernel) ?_
          refine lv_icmp_eq (tgt := 123) x.1 x.2.1 dd_md_comes_115 (by decide) (fun c441 => absurd c441 (by decide +kernel)) (fun c441 => ?_)
          refine lv_iload_n x.1 x.2.1 dd_md_comes_118 rfl (lv_at hl 1 rfl) ?_
          refine lv_iconst (v := nI 3) x.1 x.2.1 dd_md_comes_119 (by decide +kernel) ?_
          refine lv_icmp_ne (tgt := 194) x.1 x.2.1 dd_md_comes_120 (by decide) (fun c442 => ?_) (fun c442 => absurd c442 (by decide +kernel))
          refine lv_iload_n x.1 x.2.1 dd_md_comes_194 rfl (lv_at hl 1 rfl) ?_
          refine lv_bipush (v := nI 6) x.1 x.2.1 dd_md_comes_195 (by decide +kernel) ?_
          refine lv_icmp_eq (tgt := 222) x.1 x.2.1 dd_md_comes_197 (by decide) (fun c443 => absurd c443 (by decide +kernel)) (fun c443 => ?_)
          refine lv_aload_n x.1 x.2.1 dd_md_comes_200 rfl (lv_at hl 0 rfl) ?_
          refine mp_get x hH (la13 hL) fg_md_44 rfl dd_md_comes_201 ?_
          refine lv_iload x.1 x.2.1 dd_md_comes_204 (lv_at hl 7 rfl) ?_
          refine ka_ld x hH hL 11 (j := a) (by decide) (by decide) (show a < 500 from (by omega)) (by decide) dd_md_comes_206 ?_
          refine lv_if_eq (tgt := 222) x.1 x.2.1 dd_md_comes_207 (by decide) (fun c444 => ?_) (fun c444 => ?_)
          · exact mp_rv x hr hlk (by decide) (by decide) hH hS (fun _ => ⟨rfl, by unfold mcm; rw [if_neg (by decide), if_pos (Or.inr (Or.inl c444))]; exact hL⟩) dd_md_comes_222
          · refine lv_aload_n x.1 x.2.1 dd_md_comes_210 rfl (lv_at hl 0 rfl) ?_
            refine mp_get x hH (la13 hL) fg_md_44 rfl dd_md_comes_211 ?_
            refine lv_iload x.1 x.2.1 dd_md_comes_214 (lv_at hl 7 rfl) ?_
            refine ka_ld x hH hL 11 (j := a) (by decide) (by decide) (show a < 500 from (by omega)) (by decide) dd_md_comes_216 ?_
            refine lv_iload x.1 x.2.1 dd_md_comes_217 (lv_at hl 5 rfl) ?_
            refine lv_icmp_eq (tgt := 223) x.1 x.2.1 dd_md_comes_219 (by decide) (fun c445 => ?_) (fun c445 => ?_)
            · refine lv_iload_n x.1 x.2.1 dd_md_comes_223 rfl (lv_at hl 1 rfl) ?_
              refine lv_iconst (v := nI 5) x.1 x.2.1 dd_md_comes_224 (by decide +kernel) ?_
              refine lv_icmp_ne (tgt := 260) x.1 x.2.1 dd_md_comes_225 (by decide) (fun c446 => absurd (by decide +kernel) c446) (fun c446 => ?_)
              refine lv_aload_n x.1 x.2.1 dd_md_comes_228 rfl (lv_at hl 0 rfl) ?_
              refine mp_get x hH (la13 hL) fg_md_77 rfl dd_md_comes_229 ?_
              refine lv_bipush (v := nI 6) x.1 x.2.1 dd_md_comes_232 (by decide +kernel) ?_
              refine ka_ld x hH hL 23 (j := 6) (by decide) (by decide) (show 6 < 34 from (by omega)) (by decide) dd_md_comes_234 ?_
              refine mn_top (w := M 23 6) (mla_o (by decide) _) ?_
              refine lv_aload_n x.1 x.2.1 dd_md_comes_235 rfl (lv_at hl 0 rfl) ?_
              refine mp_get x hH (la13 hL) fg_md_71 rfl dd_md_comes_236 ?_
              refine lv_iload x.1 x.2.1 dd_md_comes_239 (lv_at hl 7 rfl) ?_
              refine ka_ld x hH hL 20 (j := a) (by decide) (by decide) (show a < 500 from (by omega)) (by decide) dd_md_comes_241 ?_
              refine mn_top (w := M 20 a) (mla_o (by decide) _) ?_
              refine lv_icmp_le (tgt := 259) x.1 x.2.1 dd_md_comes_242 (by decide) (fun c447 => ?_) (fun c447 => ?_)
              · exact mp_rv x hr hlk (by decide) (by decide) hH hS (fun _ => ⟨rfl, by unfold mcm; rw [if_neg (by decide), if_neg (fun z => z.elim (by decide) (fun z => z.elim c444 (fun z => z c445))), if_pos rfl, if_neg (Int32.not_lt.mpr c447)]; exact hL⟩) dd_md_comes_259
              · refine lv_aload_n x.1 x.2.1 dd_md_comes_245 rfl (lv_at hl 0 rfl) ?_
                refine mp_get x hH (la13 hL) fg_md_71 rfl dd_md_comes_246 ?_
                refine lv_iload x.1 x.2.1 dd_md_comes_249 (lv_at hl 7 rfl) ?_
                refine lv_aload_n x.1 x.2.1 dd_md_comes_251 rfl (lv_at hl 0 rfl) ?_
                refine mp_get x hH (la13 hL) fg_md_77 rfl dd_md_comes_252 ?_
                refine lv_bipush (v := nI 6) x.1 x.2.1 dd_md_comes_255 (by decide +kernel) ?_
                refine ka_ld x hH hL 23 (j := 6) (by decide) (by decide) (show 6 < 34 from (by omega)) (by decide) dd_md_comes_257 ?_
                refine mn_top (w := M 23 6) (mla_o (by decide) _) ?_
                refine ka_st x hH hS hL 20 (j := a) (by decide) (by decide) (show a < 500 from (by omega)) (by decide) dd_md_comes_258 (fun σ hL H locs hH hS => ?_)
                exact mp_rv x hr hlk (by decide) (by decide) hH hS (fun _ => ⟨rfl, by unfold mcm; rw [if_neg (by decide), if_neg (fun z => z.elim (by decide) (fun z => z.elim c444 (fun z => z c445))), if_pos rfl, if_pos (Int32.not_le.mp c447)]; exact hL⟩) dd_md_comes_259
            · exact mp_rv x hr hlk (by decide) (by decide) hH hS (fun _ => ⟨rfl, by unfold mcm; rw [if_neg (by decide), if_pos (Or.inr (Or.inr c445))]; exact hL⟩) dd_md_comes_222
        · skip
          refine lv_iload_n x.1 x.2.1 dd_md_comes_113 rfl (lv_at hl 1 rfl) ?_
          refine lv_iconst (v := nI 1) x.1 x.2.1 dd_md_comes_114 (by decide +kernel) ?_
          refine lv_icmp_eq (tgt := 123) x.1 x.2.1 dd_md_comes_115 (by decide) (fun c448 => absurd c448 (by decide +kernel)) (fun c448 => ?_)
          refine lv_iload_n x.1 x.2.1 dd_md_comes_118 rfl (lv_at hl 1 rfl) ?_
          refine lv_iconst (v := nI 3) x.1 x.2.1 dd_md_comes_119 (by decide +kernel) ?_
          refine lv_icmp_ne (tgt := 194) x.1 x.2.1 dd_md_comes_120 (by decide) (fun c449 => ?_) (fun c449 => absurd c449 (by decide +kernel))
          refine lv_iload_n x.1 x.2.1 dd_md_comes_194 rfl (lv_at hl 1 rfl) ?_
          refine lv_bipush (v := nI 6) x.1 x.2.1 dd_md_comes_195 (by decide +kernel) ?_
          refine lv_icmp_eq (tgt := 222) x.1 x.2.1 dd_md_comes_197 (by decide) (fun c450 => ?_) (fun c450 => absurd (by decide +kernel) c450)
          exact mp_rv x hr hlk (by decide) (by decide) hH hS (fun _ => ⟨rfl, by unfold mcm; rw [if_neg (by decide), if_pos (Or.inl rfl)]; exact hL⟩) dd_md_comes_222
      · have c403 : ¬ (n2 ≤ dc + j) := fun h => c403 ((cv_le (a := n2) (b := dc + j) (by omega) (by omega)).mpr h)
        refine lv_aload_n x.1 x.2.1 dd_md_comes_70 rfl (lv_at hl 0 rfl) ?_
        refine lv_iload x.1 x.2.1 dd_md_comes_71 (lv_at hl 7 rfl) ?_
        refine lv_aload_n x.1 x.2.1 dd_md_comes_73 rfl (lv_at hl 0 rfl) ?_
        refine mp_get x hH (la13 hL) fg_md_77 rfl dd_md_comes_74 ?_
        refine lv_bipush (v := nI 10) x.1 x.2.1 dd_md_comes_77 (by decide +kernel) ?_
        refine lv_iconst (v := nI 2) x.1 x.2.1 dd_md_comes_79 (by decide +kernel) ?_
        refine lv_aload_n x.1 x.2.1 dd_md_comes_80 rfl (lv_at hl 0 rfl) ?_
        refine mp_get x hH (la13 hL) fg_md_20 rfl dd_md_comes_81 ?_
        refine lv_iload x.1 x.2.1 dd_md_comes_84 (lv_at hl 7 rfl) ?_
        refine ka_ld x hH hL 3 (j := a) (by decide) (by decide) (show a < 500 from (by omega)) (by decide) dd_md_comes_86 ?_
        refine mn_top (w := nI (dc + j)) (mla_3 hdc j) ?_
        refine lv_imul x.1 x.2.1 dd_md_comes_87 ?_
        refine mn_top (w := nI (2 * (dc + j))) (pk_mul _ _) ?_
        refine lv_iadd x.1 x.2.1 dd_md_comes_88 ?_
        refine mn_top (w := nI (10 + (2 * (dc + j)))) (nI_add _ _) ?_
        refine ka_ld x hH hL 23 (j := 10 + (2 * (dc + j))) (by decide) (by decide) (show 10 + (2 * (dc + j)) < 34 from (by omega)) (by decide) dd_md_comes_89 ?_
        refine mn_top (w := M 23 (10 + (2 * (dc + j)))) (mla_o (by decide) j) ?_
        refine lv_aload_n x.1 x.2.1 dd_md_comes_90 rfl (lv_at hl 0 rfl) ?_
        refine mp_get x hH (la13 hL) fg_md_77 rfl dd_md_comes_91 ?_
        refine lv_bipush (v := nI 11) x.1 x.2.1 dd_md_comes_94 (by decide +kernel) ?_
        refine lv_iconst (v := nI 2) x.1 x.2.1 dd_md_comes_96 (by decide +kernel) ?_
        refine lv_aload_n x.1 x.2.1 dd_md_comes_97 rfl (lv_at hl 0 rfl) ?_
        refine mp_get x hH (la13 hL) fg_md_20 rfl dd_md_comes_98 ?_
        refine lv_iload x.1 x.2.1 dd_md_comes_101 (lv_at hl 7 rfl) ?_
        refine ka_ld x hH hL 3 (j := a) (by decide) (by decide) (show a < 500 from (by omega)) (by decide) dd_md_comes_103 ?_
        refine mn_top (w := nI (dc + j)) (mla_3 hdc j) ?_
        refine lv_imul x.1 x.2.1 dd_md_comes_104 ?_
        refine mn_top (w := nI (2 * (dc + j))) (pk_mul _ _) ?_
        refine lv_iadd x.1 x.2.1 dd_md_comes_105 ?_
        refine mn_top (w := nI (11 + (2 * (dc + j)))) (nI_add _ _) ?_
        refine ka_ld x hH hL 23 (j := 11 + (2 * (dc + j))) (by decide) (by decide) (show 11 + (2 * (dc + j)) < 34 from (by omega)) (by decide) dd_md_comes_106 ?_
        refine mn_top (w := M 23 (11 + (2 * (dc + j)))) (mla_o (by decide) j) ?_
        refine mp_call x (wt_mv base) hG hB hl.1 (mp_invV (av := [.int (nI a), .int (M 23 (10 + (2 * (dc + j)))), .int (M 23 (11 + (2 * (dc + j))))]) x hH (la13 hL) rfl rfl mn_md_learn mc_md_learn (Or.inl ww_861) ww_863 ww_48 rfl dd_md_comes_107) (kk_M_learn (a := a) (dc := dc + j) hL (by omega) (mla_3 hdc j) (by omega)) (Nat.le_trans (Nat.le_of_ble_eq_true rfl) hfr) (Nat.le_trans (Nat.le_of_ble_eq_true rfl) hlo) (Nat.le_trans (Nat.le_of_ble_eq_true rfl) hce) (Nat.le_trans (Nat.le_of_ble_eq_true rfl) hsl) hH hS (fun v σa t0 H locs hp451 ht0 hvm hzz hH hS => ?_) (fun _ _ _ _ _ hz _ _ _ _ _ => by cases hz.1)
        obtain ⟨ho, hL⟩ := hp451
        cases ho
        refine W.eq (g2 := F0 m 110 ls []) rfl ?_
        refine lv_goto (tgt := 53) x.1 x.2.1 dd_md_comes_110 (by decide) ?_
        exact ihloop401 (j + 1) _ (Or.inl (by omega)) hL (by omega) ls H _ (lv_sub hl [0, 1, 2, 3, 4, 5, 6, 7] rfl) hH hS
  exact loop401 _ 0 _ (Or.inr rfl) hL (Nat.lt_succ_self _) ls H _ (lv_sub hl [7, 6, 5, 4, 3, 2, 1, 0] rfl) hH hS
