/-! THE LAW'S LOOP: one turn for each kind of call. -/
theorem LCM (z : Int64) : lg_cmp z z = nI 0 := by
  rw [nI_0]; simp [lg_cmp]
/-- the turn's end: the law goes on -/
def GOON (p : Program) (l : Launch) (e : Env) (s : State) (m : MethodId) (below : List Frame) (meth : Method) (c : Code) (D : va_G) (ar : Nat → ClassId) (b i cells slots : Nat) (Q : State → Prop) : Prop :=
  ∀ (ad : Nat → Nat → Nat) (rg : Nat → Bool) (pl : Nat → Nat) (V M : fV) (f n : Nat) (σ : mp_M) (H : Heap) (locs : List Loc) (ls : Array Slot) (cells' slots' : Nat), Lay ar ad rg pl V M σ → INV rg pl V M f n → cells' ≤ cells + 110 → slots' ≤ slots + 800 → lv_has ls 7 [(0, .ref b), (1, .ref (ad 0 0)), (2, .ref (ad 13 0)), (3, .ref (ad 15 0)), (4, .int (nI i))] → HH D s.heap.size σ H → va_S (mp_A s.heap.size) s.heap H locs → W p l e room_1 s m #[Value.ref b] below meth c H locs cells' slots' Q (F0 m 1139 ls [])
set_option maxRecDepth 100000 in
set_option maxHeartbeats 4000000 in
theorem lt_register {p : Program} {l : Launch} {e : Env} {s : State} {m : MethodId} {below : List Frame} {meth : Method} {c : Code} {D : va_G} {ar : Nat → ClassId} {b L i cells slots : Nat} {xs : Nat → Int32} {Q : State → Prop} {ad : Nat → Nat → Nat} {rg : Nat → Bool} {pl : Nat → Nat} {V M : fV} {f n : Nat} {σ : mp_M} {H : Heap} {locs : List Loc} {ls : Array Slot} (x : XX D ar p s m #[Value.ref b] c code 7 "SupplyGridLaw") (hG : GG D ar s.heap.size s) (hX : va_X b L xs s s.heap) (hbl : b < s.heap.size) (hfl : l.flags = flags0) (hL : Lay ar ad rg pl V M σ) (hI : INV rg pl V M f n) (hi : i + 5 ≤ L) (hLN : L < 2 ^ 30) (hce : cells + 110 ≤ room_1.cells) (hsl : slots + 800 ≤ room_1.slots) (hl : lv_has ls 7 [(0, .ref b), (1, .ref (ad 0 0)), (2, .ref (ad 13 0)), (3, .ref (ad 15 0)), (4, .int (nI i))]) (hH : HH D s.heap.size σ H) (hS : va_S (mp_A s.heap.size) s.heap H locs) (go : GOON p l e s m below meth c D ar b i cells slots Q) : W p l e room_1 s m #[Value.ref b] below meth c H locs cells slots Q (F0 m 116 ls []) := by
  have hbA : ¬ mp_A s.heap.size b := Nat.not_le.mpr hbl
  refine lv_aload_n x.1 x.2.1 dd_la_law_116 rfl (lv_at hl 1 rfl) ?_
  refine lv_aload_n x.1 x.2.1 dd_la_law_117 rfl (lv_at hl 0 rfl) ?_
  refine lv_iload x.1 x.2.1 dd_la_law_118 (lv_at hl 4 rfl) ?_
  refine lv_iconst (v := nI 1) x.1 x.2.1 dd_la_law_120 (by decide +kernel) ?_
  refine lv_iadd x.1 x.2.1 dd_la_law_121 ?_
  refine mn_top (w := nI (i + 1)) (nI_add _ _) ?_
  refine va_sld x.1 x.2.1 hX hbl hbA hS (vp_in_nI (show i + 1 < L by omega) (by omega)) dd_la_law_122 ?_
  refine mn_top (w := xs (i + 1)) (by rw [nI_clamp (by omega)]) ?_
  refine lv_aload_n x.1 x.2.1 dd_la_law_123 rfl (lv_at hl 0 rfl) ?_
  refine lv_iload x.1 x.2.1 dd_la_law_124 (lv_at hl 4 rfl) ?_
  refine lv_iconst (v := nI 2) x.1 x.2.1 dd_la_law_126 (by decide +kernel) ?_
  refine lv_iadd x.1 x.2.1 dd_la_law_127 ?_
  refine mn_top (w := nI (i + 2)) (nI_add _ _) ?_
  refine va_sld x.1 x.2.1 hX hbl hbA hS (vp_in_nI (show i + 2 < L by omega) (by omega)) dd_la_law_128 ?_
  refine mn_top (w := xs (i + 2)) (by rw [nI_clamp (by omega)]) ?_
  refine lv_aload_n x.1 x.2.1 dd_la_law_129 rfl (lv_at hl 0 rfl) ?_
  refine lv_iload x.1 x.2.1 dd_la_law_130 (lv_at hl 4 rfl) ?_
  refine lv_iconst (v := nI 3) x.1 x.2.1 dd_la_law_132 (by decide +kernel) ?_
  refine lv_iadd x.1 x.2.1 dd_la_law_133 ?_
  refine mn_top (w := nI (i + 3)) (nI_add _ _) ?_
  refine va_sld x.1 x.2.1 hX hbl hbA hS (vp_in_nI (show i + 3 < L by omega) (by omega)) dd_la_law_134 ?_
  refine mn_top (w := xs (i + 3)) (by rw [nI_clamp (by omega)]) ?_
  obtain ⟨k, rg1, V1, M1, hC, hM, h27, hI1, hkm⟩ := st_register (l := l) (D := D) (ar := ar) (base := s.heap.size) (ad := ad) (k0 := xs (i + 1)) (k1 := xs (i + 2)) (k2 := xs (i + 3)) hfl hI
  refine mp_call x (wt_mv _) hG (Nat.le_refl _) hl.1 (mp_invS (av := [.ref (ad 0 0), .int (xs (i + 1)), .int (xs (i + 2)), .int (xs (i + 3))]) x mn_la_register mc_la_register (Or.inl ww_300) ww_301 ww_53 rfl dd_la_law_135) (kk_W_register hL (hC σ hL)) (Nat.le_of_ble_eq_true rfl) (Nat.le_of_ble_eq_true rfl) (by omega) (by omega) hH hS (fun v σa t0 H locs hp1 ht0 hvm hzz hH hS => ?_) (fun _ _ _ _ _ hz _ _ _ _ _ => by cases hz.1)
  obtain ⟨ho, ad, hL, e0, e1, e2⟩ := hp1
  cases ho
  rw [← e0, ← e1, ← e2] at hl
  refine W.eq (g2 := F0 m 138 ls [.int (nI k)]) rfl ?_
  refine lv_istore (lv' := [(5, .int (nI k)), (0, .ref b), (1, .ref (ad 0 0)), (2, .ref (ad 13 0)), (3, .ref (ad 15 0)), (4, .int (nI i))]) x.1 x.2.1 dd_la_law_138 hl (by decide) rfl (fun ls hl => ?_)
  refine lv_aload_n x.1 x.2.1 dd_la_law_140 rfl (lv_at hl 3 rfl) ?_
  refine lv_aload_n x.1 x.2.1 dd_la_law_141 rfl (lv_at hl 1 rfl) ?_
  refine lv_iload x.1 x.2.1 dd_la_law_142 (lv_at hl 5 rfl) ?_
  refine lv_iconst (v := nI 1) x.1 x.2.1 dd_la_law_144 (by decide +kernel) ?_
  refine lv_iadd x.1 x.2.1 dd_la_law_145 ?_
  refine mn_top (w := nI (i + 1)) (nI_add _ _) ?_
  refine va_sld x.1 x.2.1 hX hbl hbA hS (vp_in_nI (show i + 1 < L by omega) (by omega)) dd_la_law_146 ?_
  refine mn_top (w := xs (i + 1)) (by rw [nI_clamp (by omega)]) ?_
  refine lv_aload_n x.1 x.2.1 dd_la_law_147 rfl (lv_at hl 1 rfl) ?_
  refine lv_iload x.1 x.2.1 dd_la_law_148 (lv_at hl 5 rfl) ?_
  refine lv_iconst (v := nI 2) x.1 x.2.1 dd_la_law_150 (by decide +kernel) ?_
  refine lv_iadd x.1 x.2.1 dd_la_law_151 ?_
  refine mn_top (w := nI (i + 2)) (nI_add _ _) ?_
  refine va_sld x.1 x.2.1 hX hbl hbA hS (vp_in_nI (show i + 2 < L by omega) (by omega)) dd_la_law_152 ?_
  refine mn_top (w := xs (i + 2)) (by rw [nI_clamp (by omega)]) ?_
  refine lv_aload_n x.1 x.2.1 dd_la_law_153 rfl (lv_at hl 1 rfl) ?_
  refine lv_iload x.1 x.2.1 dd_la_law_154 (lv_at hl 5 rfl) ?_
  refine lv_iconst (v := nI 3) x.1 x.2.1 dd_la_law_156 (by decide +kernel) ?_
  refine lv_iadd x.1 x.2.1 dd_la_law_157 ?_
  refine mn_top (w := nI (i + 3)) (nI_add _ _) ?_
  refine va_sld x.1 x.2.1 hX hbl hbA hS (vp_in_nI (show i + 3 < L by omega) (by omega)) dd_la_law_158 ?_
  refine mn_top (w := xs (i + 3)) (by rw [nI_clamp (by omega)]) ?_
  refine mp_call x (wt_mv _) hG (Nat.le_refl _) hl.1 (mp_invV (av := [.int (xs (i + 1)), .int (xs (i + 2)), .int (xs (i + 3))]) x hH (la13 hL) rfl rfl mn_md_register mc_md_register (Or.inl ww_804) ww_805 ww_806 rfl dd_la_law_159) (hM ad _ σa hL) (Nat.le_of_ble_eq_true rfl) (Nat.le_of_ble_eq_true rfl) (by omega) (by omega) hH hS (fun v σa t0 H locs hp2 ht0 hvm hzz hH hS => ?_) (fun _ _ _ _ _ hz _ _ _ _ _ => by cases hz.1)
  obtain ⟨ho, hL⟩ := hp2
  cases ho
  refine W.eq (g2 := F0 m 162 ls []) rfl ?_
  refine lv_aload_n x.1 x.2.1 dd_la_law_162 rfl (lv_at hl 3 rfl) ?_
  refine mp_call x (wt_mv _) hG (Nat.le_refl _) hl.1 (mp_invV (av := []) x hH (la13 hL) rfl rfl mn_md_thrown mc_md_thrown (Or.inl ww_800) ww_801 ww_802 rfl dd_la_law_163) (kk_M_thrown hL) (Nat.le_of_ble_eq_true rfl) (Nat.le_of_ble_eq_true rfl) (by omega) (by omega) hH hS (fun v σa t0 H locs hp3 ht0 hvm hzz hH hS => ?_) (fun _ _ _ _ _ hz _ _ _ _ _ => by cases hz.1)
  obtain ⟨ho, hL⟩ := hp3
  cases ho
  refine W.eq (g2 := F0 m 166 ls [.int (M1 27 0)]) rfl ?_
  refine mn_top (w := nI k) h27 ?_
  refine lv_iload x.1 x.2.1 dd_la_law_166 (lv_at hl 0 rfl) ?_
  refine lv_icmp_eq (tgt := 173) x.1 x.2.1 dd_la_law_168 (by decide) (fun c4 => ?_) (fun c4 => absurd rfl c4)
  refine lv_goto (tgt := 1139) x.1 x.2.1 dd_la_law_173 (by decide) ?_
  exact go _ _ _ _ _ _ _ _ H locs ls _ _ hL hI1 (by omega) (by omega) (lv_sub hl [1, 2, 3, 4, 5] rfl) hH hS
set_option maxRecDepth 100000 in
set_option maxHeartbeats 4000000 in
theorem lt_ask {p : Program} {l : Launch} {e : Env} {s : State} {m : MethodId} {below : List Frame} {meth : Method} {c : Code} {D : va_G} {ar : Nat → ClassId} {b L i cells slots : Nat} {xs : Nat → Int32} {Q : State → Prop} {ad : Nat → Nat → Nat} {rg : Nat → Bool} {pl : Nat → Nat} {V M : fV} {f n : Nat} {σ : mp_M} {H : Heap} {locs : List Loc} {ls : Array Slot} (x : XX D ar p s m #[Value.ref b] c code 7 "SupplyGridLaw") (hG : GG D ar s.heap.size s) (hX : va_X b L xs s s.heap) (hbl : b < s.heap.size) (hfl : l.flags = flags0) (hL : Lay ar ad rg pl V M σ) (hI : INV rg pl V M f n) (hi : i + 5 ≤ L) (hLN : L < 2 ^ 30) (hce : cells + 110 ≤ room_1.cells) (hsl : slots + 800 ≤ room_1.slots) (hl : lv_has ls 7 [(0, .ref b), (1, .ref (ad 0 0)), (2, .ref (ad 13 0)), (3, .ref (ad 15 0)), (4, .int (nI i))]) (hH : HH D s.heap.size σ H) (hS : va_S (mp_A s.heap.size) s.heap H locs) (go : GOON p l e s m below meth c D ar b i cells slots Q) : W p l e room_1 s m #[Value.ref b] below meth c H locs cells slots Q (F0 m 176 ls []) := by
  have hbA : ¬ mp_A s.heap.size b := Nat.not_le.mpr hbl
  refine lv_aload_n x.1 x.2.1 dd_la_law_176 rfl (lv_at hl 1 rfl) ?_
  refine lv_aload_n x.1 x.2.1 dd_la_law_177 rfl (lv_at hl 0 rfl) ?_
  refine lv_iload x.1 x.2.1 dd_la_law_178 (lv_at hl 4 rfl) ?_
  refine lv_iconst (v := nI 1) x.1 x.2.1 dd_la_law_180 (by decide +kernel) ?_
  refine lv_iadd x.1 x.2.1 dd_la_law_181 ?_
  refine mn_top (w := nI (i + 1)) (nI_add _ _) ?_
  refine va_sld x.1 x.2.1 hX hbl hbA hS (vp_in_nI (show i + 1 < L by omega) (by omega)) dd_la_law_182 ?_
  refine mn_top (w := xs (i + 1)) (by rw [nI_clamp (by omega)]) ?_
  refine lv_aload_n x.1 x.2.1 dd_la_law_183 rfl (lv_at hl 0 rfl) ?_
  refine lv_iload x.1 x.2.1 dd_la_law_184 (lv_at hl 4 rfl) ?_
  refine lv_iconst (v := nI 2) x.1 x.2.1 dd_la_law_186 (by decide +kernel) ?_
  refine lv_iadd x.1 x.2.1 dd_la_law_187 ?_
  refine mn_top (w := nI (i + 2)) (nI_add _ _) ?_
  refine va_sld x.1 x.2.1 hX hbl hbA hS (vp_in_nI (show i + 2 < L by omega) (by omega)) dd_la_law_188 ?_
  refine mn_top (w := xs (i + 2)) (by rw [nI_clamp (by omega)]) ?_
  refine lv_aload_n x.1 x.2.1 dd_la_law_189 rfl (lv_at hl 0 rfl) ?_
  refine lv_iload x.1 x.2.1 dd_la_law_190 (lv_at hl 4 rfl) ?_
  refine lv_iconst (v := nI 3) x.1 x.2.1 dd_la_law_192 (by decide +kernel) ?_
  refine lv_iadd x.1 x.2.1 dd_la_law_193 ?_
  refine mn_top (w := nI (i + 3)) (nI_add _ _) ?_
  refine va_sld x.1 x.2.1 hX hbl hbA hS (vp_in_nI (show i + 3 < L by omega) (by omega)) dd_la_law_194 ?_
  refine mn_top (w := xs (i + 3)) (by rw [nI_clamp (by omega)]) ?_
  refine lv_aload_n x.1 x.2.1 dd_la_law_195 rfl (lv_at hl 3 rfl) ?_
  obtain ⟨k, r, rb, pl1, V1, M1, f1, n1, hC, hM, h27, hrb, hI1, hkm, hbz⟩ := st_ask (l := l) (D := D) (ar := ar) (base := s.heap.size) (ad := ad) (k0 := xs (i + 1)) (k1 := xs (i + 2)) (k2 := xs (i + 3)) hfl hI
  refine mp_call x (wt_mv _) hG (Nat.le_refl _) hl.1 (mp_invS (av := [.ref (ad 0 0), .int (xs (i + 1)), .int (xs (i + 2)), .int (xs (i + 3)), .ref (ad 15 0)]) x mn_la_ask mc_la_ask (Or.inl ww_418) ww_419 ww_53 rfl dd_la_law_196) (kk_W_ask hL (hC σ hL) hkm) (Nat.le_of_ble_eq_true rfl) (Nat.le_of_ble_eq_true rfl) (by omega) (by omega) hH hS (fun v σa t0 H locs hp5 ht0 hvm hzz hH hS => ?_) (fun _ _ _ _ _ hz _ _ _ _ _ => by cases hz.1)
  obtain ⟨ho, w, hw, hL⟩ := hp5
  cases ho
  refine W.eq (g2 := F0 m 199 ls [.int (nI k)]) rfl ?_
  refine lv_istore (lv' := [(5, .int (nI k)), (0, .ref b), (1, .ref (ad 0 0)), (2, .ref (ad 13 0)), (3, .ref (ad 15 0)), (4, .int (nI i))]) x.1 x.2.1 dd_la_law_199 hl (by decide) rfl (fun ls hl => ?_)
  refine lv_aload_n x.1 x.2.1 dd_la_law_201 rfl (lv_at hl 3 rfl) ?_
  refine lv_aload_n x.1 x.2.1 dd_la_law_202 rfl (lv_at hl 1 rfl) ?_
  refine lv_iload x.1 x.2.1 dd_la_law_203 (lv_at hl 5 rfl) ?_
  refine lv_iconst (v := nI 1) x.1 x.2.1 dd_la_law_205 (by decide +kernel) ?_
  refine lv_iadd x.1 x.2.1 dd_la_law_206 ?_
  refine mn_top (w := nI (i + 1)) (nI_add _ _) ?_
  refine va_sld x.1 x.2.1 hX hbl hbA hS (vp_in_nI (show i + 1 < L by omega) (by omega)) dd_la_law_207 ?_
  refine mn_top (w := xs (i + 1)) (by rw [nI_clamp (by omega)]) ?_
  refine lv_aload_n x.1 x.2.1 dd_la_law_208 rfl (lv_at hl 1 rfl) ?_
  refine lv_iload x.1 x.2.1 dd_la_law_209 (lv_at hl 5 rfl) ?_
  refine lv_iconst (v := nI 2) x.1 x.2.1 dd_la_law_211 (by decide +kernel) ?_
  refine lv_iadd x.1 x.2.1 dd_la_law_212 ?_
  refine mn_top (w := nI (i + 2)) (nI_add _ _) ?_
  refine va_sld x.1 x.2.1 hX hbl hbA hS (vp_in_nI (show i + 2 < L by omega) (by omega)) dd_la_law_213 ?_
  refine mn_top (w := xs (i + 2)) (by rw [nI_clamp (by omega)]) ?_
  refine lv_aload_n x.1 x.2.1 dd_la_law_214 rfl (lv_at hl 1 rfl) ?_
  refine lv_iload x.1 x.2.1 dd_la_law_215 (lv_at hl 5 rfl) ?_
  refine lv_iconst (v := nI 3) x.1 x.2.1 dd_la_law_217 (by decide +kernel) ?_
  refine lv_iadd x.1 x.2.1 dd_la_law_218 ?_
  refine mn_top (w := nI (i + 3)) (nI_add _ _) ?_
  refine va_sld x.1 x.2.1 hX hbl hbA hS (vp_in_nI (show i + 3 < L by omega) (by omega)) dd_la_law_219 ?_
  refine mn_top (w := xs (i + 3)) (by rw [nI_clamp (by omega)]) ?_
  refine mp_call x (wt_mv _) hG (Nat.le_refl _) hl.1 (mp_invV (av := [.int (xs (i + 1)), .int (xs (i + 2)), .int (xs (i + 3))]) x hH (la13 hL) rfl rfl mn_md_ask mc_md_ask (Or.inl ww_818) ww_819 ww_820 rfl dd_la_law_220) (hM _ σa hL) (Nat.le_of_ble_eq_true rfl) (Nat.le_of_ble_eq_true rfl) (by omega) (by omega) hH hS (fun v σa t0 H locs hp6 ht0 hvm hzz hH hS => ?_) (fun _ _ _ _ _ hz _ _ _ _ _ => by cases hz.1)
  obtain ⟨ho, hL⟩ := hp6
  cases ho
  refine W.eq (g2 := F0 m 223 ls [.int rb]) rfl ?_
  refine lv_istore (lv' := [(6, .int rb), (5, .int (nI k)), (0, .ref b), (1, .ref (ad 0 0)), (2, .ref (ad 13 0)), (3, .ref (ad 15 0)), (4, .int (nI i))]) x.1 x.2.1 dd_la_law_223 hl (by decide) rfl (fun ls hl => ?_)
  refine lv_aload_n x.1 x.2.1 dd_la_law_225 rfl (lv_at hl 4 rfl) ?_
  refine mp_call x (wt_mv _) hG (Nat.le_refl _) hl.1 (mp_invV (av := []) x hH (la13 hL) rfl rfl mn_md_thrown mc_md_thrown (Or.inl ww_800) ww_801 ww_802 rfl dd_la_law_226) (kk_M_thrown hL) (Nat.le_of_ble_eq_true rfl) (Nat.le_of_ble_eq_true rfl) (by omega) (by omega) hH hS (fun v σa t0 H locs hp7 ht0 hvm hzz hH hS => ?_) (fun _ _ _ _ _ hz _ _ _ _ _ => by cases hz.1)
  obtain ⟨ho, hL⟩ := hp7
  cases ho
  refine W.eq (g2 := F0 m 229 ls [.int (M1 27 0)]) rfl ?_
  refine mn_top (w := nI k) h27 ?_
  refine lv_iload x.1 x.2.1 dd_la_law_229 (lv_at hl 1 rfl) ?_
  refine lv_icmp_eq (tgt := 236) x.1 x.2.1 dd_la_law_231 (by decide) (fun c8 => ?_) (fun c8 => absurd rfl c8)
  refine lv_iload x.1 x.2.1 dd_la_law_236 (lv_at hl 1 rfl) ?_
  by_cases hk0 : k = 0
  · subst hk0
    obtain rfl := hrb rfl
    refine lv_if_ne (tgt := 253) x.1 x.2.1 dd_la_law_238 (by decide) (fun c9 => absurd (by decide +kernel) c9) (fun c9 => ?_)
    refine lv_aload_n x.1 x.2.1 dd_la_law_241 rfl (lv_at hl 5 rfl) ?_
    refine lv_iconst (v := nI 0) x.1 x.2.1 dd_la_law_242 (by decide +kernel) ?_
    refine ko_ld (v := r) x hH hL (mu_s.trans (hw rfl)) dd_la_law_243 ?_
    refine lv_iload x.1 x.2.1 dd_la_law_244 (lv_at hl 0 rfl) ?_
    refine lv_i2l (v := r.toInt64) x.1 x.2.1 dd_la_law_246 rfl ?_
    refine W.lcmp x.1 x.2.1 dd_la_law_247 ?_
    refine mn_top (w := nI 0) (LCM _) ?_
    refine lv_if_eq (tgt := 253) x.1 x.2.1 dd_la_law_248 (by decide) (fun c10 => ?_) (fun c10 => absurd (by decide +kernel) c10)
    refine lv_goto (tgt := 1139) x.1 x.2.1 dd_la_law_253 (by decide) ?_
    exact go _ _ _ _ _ _ _ _ H locs ls _ _ hL (INV_62 hI1) (by omega) (by omega) (lv_sub hl [2, 3, 4, 5, 6] rfl) hH hS
  · refine lv_if_ne (tgt := 253) x.1 x.2.1 dd_la_law_238 (by decide) (fun c11 => ?_) (fun c11 => absurd c11 (nI_ne0 (by omega) (by omega)))
    refine lv_goto (tgt := 1139) x.1 x.2.1 dd_la_law_253 (by decide) ?_
    exact go _ _ _ _ _ _ _ _ H locs ls _ _ hL (INV_62 hI1) (by omega) (by omega) (lv_sub hl [2, 3, 4, 5, 6] rfl) hH hS
set_option maxRecDepth 100000 in
set_option maxHeartbeats 4000000 in
theorem lt_retry {p : Program} {l : Launch} {e : Env} {s : State} {m : MethodId} {below : List Frame} {meth : Method} {c : Code} {D : va_G} {ar : Nat → ClassId} {b L i cells slots : Nat} {xs : Nat → Int32} {Q : State → Prop} {ad : Nat → Nat → Nat} {rg : Nat → Bool} {pl : Nat → Nat} {V M : fV} {f n : Nat} {σ : mp_M} {H : Heap} {locs : List Loc} {ls : Array Slot} (x : XX D ar p s m #[Value.ref b] c code 7 "SupplyGridLaw") (hG : GG D ar s.heap.size s) (hX : va_X b L xs s s.heap) (hbl : b < s.heap.size) (hfl : l.flags = flags0) (hL : Lay ar ad rg pl V M σ) (hI : INV rg pl V M f n) (hi : i + 5 ≤ L) (hLN : L < 2 ^ 30) (hce : cells + 110 ≤ room_1.cells) (hsl : slots + 800 ≤ room_1.slots) (hl : lv_has ls 7 [(0, .ref b), (1, .ref (ad 0 0)), (2, .ref (ad 13 0)), (3, .ref (ad 15 0)), (4, .int (nI i))]) (hH : HH D s.heap.size σ H) (hS : va_S (mp_A s.heap.size) s.heap H locs) (go : GOON p l e s m below meth c D ar b i cells slots Q) : W p l e room_1 s m #[Value.ref b] below meth c H locs cells slots Q (F0 m 256 ls []) := by
  have hbA : ¬ mp_A s.heap.size b := Nat.not_le.mpr hbl
  refine lv_aload_n x.1 x.2.1 dd_la_law_256 rfl (lv_at hl 1 rfl) ?_
  refine lv_aload_n x.1 x.2.1 dd_la_law_257 rfl (lv_at hl 0 rfl) ?_
  refine lv_iload x.1 x.2.1 dd_la_law_258 (lv_at hl 4 rfl) ?_
  refine lv_iconst (v := nI 1) x.1 x.2.1 dd_la_law_260 (by decide +kernel) ?_
  refine lv_iadd x.1 x.2.1 dd_la_law_261 ?_
  refine mn_top (w := nI (i + 1)) (nI_add _ _) ?_
  refine va_sld x.1 x.2.1 hX hbl hbA hS (vp_in_nI (show i + 1 < L by omega) (by omega)) dd_la_law_262 ?_
  refine mn_top (w := xs (i + 1)) (by rw [nI_clamp (by omega)]) ?_
  refine lv_aload_n x.1 x.2.1 dd_la_law_263 rfl (lv_at hl 0 rfl) ?_
  refine lv_iload x.1 x.2.1 dd_la_law_264 (lv_at hl 4 rfl) ?_
  refine lv_iconst (v := nI 2) x.1 x.2.1 dd_la_law_266 (by decide +kernel) ?_
  refine lv_iadd x.1 x.2.1 dd_la_law_267 ?_
  refine mn_top (w := nI (i + 2)) (nI_add _ _) ?_
  refine va_sld x.1 x.2.1 hX hbl hbA hS (vp_in_nI (show i + 2 < L by omega) (by omega)) dd_la_law_268 ?_
  refine mn_top (w := xs (i + 2)) (by rw [nI_clamp (by omega)]) ?_
  refine lv_aload_n x.1 x.2.1 dd_la_law_269 rfl (lv_at hl 3 rfl) ?_
  obtain ⟨k, r, rb, pl1, V1, M1, f1, n1, hC, hM, h27, hrb, hI1, hkm, hbz⟩ := st_retry (l := l) (D := D) (ar := ar) (base := s.heap.size) (ad := ad) (k0 := xs (i + 1)) (k1 := xs (i + 2)) hfl hI
  refine mp_call x (wt_mv _) hG (Nat.le_refl _) hl.1 (mp_invS (av := [.ref (ad 0 0), .int (xs (i + 1)), .int (xs (i + 2)), .ref (ad 15 0)]) x mn_la_retry mc_la_retry (Or.inl ww_510) ww_511 ww_53 rfl dd_la_law_270) (kk_W_retry hL (hC σ hL) hkm) (Nat.le_of_ble_eq_true rfl) (Nat.le_of_ble_eq_true rfl) (by omega) (by omega) hH hS (fun v σa t0 H locs hp12 ht0 hvm hzz hH hS => ?_) (fun _ _ _ _ _ hz _ _ _ _ _ => by cases hz.1)
  obtain ⟨ho, w, hw, hL⟩ := hp12
  cases ho
  refine W.eq (g2 := F0 m 273 ls [.int (nI k)]) rfl ?_
  refine lv_istore (lv' := [(5, .int (nI k)), (0, .ref b), (1, .ref (ad 0 0)), (2, .ref (ad 13 0)), (3, .ref (ad 15 0)), (4, .int (nI i))]) x.1 x.2.1 dd_la_law_273 hl (by decide) rfl (fun ls hl => ?_)
  refine lv_aload_n x.1 x.2.1 dd_la_law_275 rfl (lv_at hl 3 rfl) ?_
  refine lv_aload_n x.1 x.2.1 dd_la_law_276 rfl (lv_at hl 1 rfl) ?_
  refine lv_iload x.1 x.2.1 dd_la_law_277 (lv_at hl 5 rfl) ?_
  refine lv_iconst (v := nI 1) x.1 x.2.1 dd_la_law_279 (by decide +kernel) ?_
  refine lv_iadd x.1 x.2.1 dd_la_law_280 ?_
  refine mn_top (w := nI (i + 1)) (nI_add _ _) ?_
  refine va_sld x.1 x.2.1 hX hbl hbA hS (vp_in_nI (show i + 1 < L by omega) (by omega)) dd_la_law_281 ?_
  refine mn_top (w := xs (i + 1)) (by rw [nI_clamp (by omega)]) ?_
  refine lv_aload_n x.1 x.2.1 dd_la_law_282 rfl (lv_at hl 1 rfl) ?_
  refine lv_iload x.1 x.2.1 dd_la_law_283 (lv_at hl 5 rfl) ?_
  refine lv_iconst (v := nI 2) x.1 x.2.1 dd_la_law_285 (by decide +kernel) ?_
  refine lv_iadd x.1 x.2.1 dd_la_law_286 ?_
  refine mn_top (w := nI (i + 2)) (nI_add _ _) ?_
  refine va_sld x.1 x.2.1 hX hbl hbA hS (vp_in_nI (show i + 2 < L by omega) (by omega)) dd_la_law_287 ?_
  refine mn_top (w := xs (i + 2)) (by rw [nI_clamp (by omega)]) ?_
  refine mp_call x (wt_mv _) hG (Nat.le_refl _) hl.1 (mp_invV (av := [.int (xs (i + 1)), .int (xs (i + 2))]) x hH (la13 hL) rfl rfl mn_md_retry mc_md_retry (Or.inl ww_841) ww_842 ww_843 rfl dd_la_law_288) (hM _ σa hL) (Nat.le_of_ble_eq_true rfl) (Nat.le_of_ble_eq_true rfl) (by omega) (by omega) hH hS (fun v σa t0 H locs hp13 ht0 hvm hzz hH hS => ?_) (fun _ _ _ _ _ hz _ _ _ _ _ => by cases hz.1)
  obtain ⟨ho, hL⟩ := hp13
  cases ho
  refine W.eq (g2 := F0 m 291 ls [.int rb]) rfl ?_
  refine lv_istore (lv' := [(6, .int rb), (5, .int (nI k)), (0, .ref b), (1, .ref (ad 0 0)), (2, .ref (ad 13 0)), (3, .ref (ad 15 0)), (4, .int (nI i))]) x.1 x.2.1 dd_la_law_291 hl (by decide) rfl (fun ls hl => ?_)
  refine lv_aload_n x.1 x.2.1 dd_la_law_293 rfl (lv_at hl 4 rfl) ?_
  refine mp_call x (wt_mv _) hG (Nat.le_refl _) hl.1 (mp_invV (av := []) x hH (la13 hL) rfl rfl mn_md_thrown mc_md_thrown (Or.inl ww_800) ww_801 ww_802 rfl dd_la_law_294) (kk_M_thrown hL) (Nat.le_of_ble_eq_true rfl) (Nat.le_of_ble_eq_true rfl) (by omega) (by omega) hH hS (fun v σa t0 H locs hp14 ht0 hvm hzz hH hS => ?_) (fun _ _ _ _ _ hz _ _ _ _ _ => by cases hz.1)
  obtain ⟨ho, hL⟩ := hp14
  cases ho
  refine W.eq (g2 := F0 m 297 ls [.int (M1 27 0)]) rfl ?_
  refine mn_top (w := nI k) h27 ?_
  refine lv_iload x.1 x.2.1 dd_la_law_297 (lv_at hl 1 rfl) ?_
  refine lv_icmp_eq (tgt := 304) x.1 x.2.1 dd_la_law_299 (by decide) (fun c15 => ?_) (fun c15 => absurd rfl c15)
  refine lv_iload x.1 x.2.1 dd_la_law_304 (lv_at hl 1 rfl) ?_
  by_cases hk0 : k = 0
  · subst hk0
    obtain rfl := hrb rfl
    refine lv_if_ne (tgt := 321) x.1 x.2.1 dd_la_law_306 (by decide) (fun c16 => absurd (by decide +kernel) c16) (fun c16 => ?_)
    refine lv_aload_n x.1 x.2.1 dd_la_law_309 rfl (lv_at hl 5 rfl) ?_
    refine lv_iconst (v := nI 0) x.1 x.2.1 dd_la_law_310 (by decide +kernel) ?_
    refine ko_ld (v := r) x hH hL (mu_s.trans (hw rfl)) dd_la_law_311 ?_
    refine lv_iload x.1 x.2.1 dd_la_law_312 (lv_at hl 0 rfl) ?_
    refine lv_i2l (v := r.toInt64) x.1 x.2.1 dd_la_law_314 rfl ?_
    refine W.lcmp x.1 x.2.1 dd_la_law_315 ?_
    refine mn_top (w := nI 0) (LCM _) ?_
    refine lv_if_eq (tgt := 321) x.1 x.2.1 dd_la_law_316 (by decide) (fun c17 => ?_) (fun c17 => absurd (by decide +kernel) c17)
    refine lv_goto (tgt := 1139) x.1 x.2.1 dd_la_law_321 (by decide) ?_
    exact go _ _ _ _ _ _ _ _ H locs ls _ _ hL (INV_62 hI1) (by omega) (by omega) (lv_sub hl [2, 3, 4, 5, 6] rfl) hH hS
  · refine lv_if_ne (tgt := 321) x.1 x.2.1 dd_la_law_306 (by decide) (fun c18 => ?_) (fun c18 => absurd c18 (nI_ne0 (by omega) (by omega)))
    refine lv_goto (tgt := 1139) x.1 x.2.1 dd_la_law_321 (by decide) ?_
    exact go _ _ _ _ _ _ _ _ H locs ls _ _ hL (INV_62 hI1) (by omega) (by omega) (lv_sub hl [2, 3, 4, 5, 6] rfl) hH hS
set_option maxRecDepth 100000 in
set_option maxHeartbeats 4000000 in
theorem lt_deliver {p : Program} {l : Launch} {e : Env} {s : State} {m : MethodId} {below : List Frame} {meth : Method} {c : Code} {D : va_G} {ar : Nat → ClassId} {b L i cells slots : Nat} {xs : Nat → Int32} {Q : State → Prop} {ad : Nat → Nat → Nat} {rg : Nat → Bool} {pl : Nat → Nat} {V M : fV} {f n : Nat} {σ : mp_M} {H : Heap} {locs : List Loc} {ls : Array Slot} (x : XX D ar p s m #[Value.ref b] c code 7 "SupplyGridLaw") (hG : GG D ar s.heap.size s) (hX : va_X b L xs s s.heap) (hbl : b < s.heap.size) (hfl : l.flags = flags0) (hL : Lay ar ad rg pl V M σ) (hI : INV rg pl V M f n) (hi : i + 5 ≤ L) (hLN : L < 2 ^ 30) (hce : cells + 110 ≤ room_1.cells) (hsl : slots + 800 ≤ room_1.slots) (hl : lv_has ls 7 [(0, .ref b), (1, .ref (ad 0 0)), (2, .ref (ad 13 0)), (3, .ref (ad 15 0)), (4, .int (nI i))]) (hH : HH D s.heap.size σ H) (hS : va_S (mp_A s.heap.size) s.heap H locs) (go : GOON p l e s m below meth c D ar b i cells slots Q) : W p l e room_1 s m #[Value.ref b] below meth c H locs cells slots Q (F0 m 324 ls []) := by
  have hbA : ¬ mp_A s.heap.size b := Nat.not_le.mpr hbl
  refine lv_aload_n x.1 x.2.1 dd_la_law_324 rfl (lv_at hl 1 rfl) ?_
  refine lv_aload_n x.1 x.2.1 dd_la_law_325 rfl (lv_at hl 0 rfl) ?_
  refine lv_iload x.1 x.2.1 dd_la_law_326 (lv_at hl 4 rfl) ?_
  refine lv_iconst (v := nI 1) x.1 x.2.1 dd_la_law_328 (by decide +kernel) ?_
  refine lv_iadd x.1 x.2.1 dd_la_law_329 ?_
  refine mn_top (w := nI (i + 1)) (nI_add _ _) ?_
  refine va_sld x.1 x.2.1 hX hbl hbA hS (vp_in_nI (show i + 1 < L by omega) (by omega)) dd_la_law_330 ?_
  refine mn_top (w := xs (i + 1)) (by rw [nI_clamp (by omega)]) ?_
  refine lv_aload_n x.1 x.2.1 dd_la_law_331 rfl (lv_at hl 3 rfl) ?_
  obtain ⟨k, r, rb, pl1, V1, M1, f1, n1, hC, hM, h27, hrb, hI1, hkm, hbz⟩ := st_deliver (l := l) (D := D) (ar := ar) (base := s.heap.size) (ad := ad) (k0 := xs (i + 1)) hfl hI
  refine mp_call x (wt_mv _) hG (Nat.le_refl _) hl.1 (mp_invS (av := [.ref (ad 0 0), .int (xs (i + 1)), .ref (ad 15 0)]) x mn_la_deliver mc_la_deliver (Or.inl ww_526) ww_527 ww_53 rfl dd_la_law_332) (kk_W_deliver hL (hC σ hL) hkm) (Nat.le_of_ble_eq_true rfl) (Nat.le_of_ble_eq_true rfl) (by omega) (by omega) hH hS (fun v σa t0 H locs hp19 ht0 hvm hzz hH hS => ?_) (fun _ _ _ _ _ hz _ _ _ _ _ => by cases hz.1)
  obtain ⟨ho, w, hw, hL⟩ := hp19
  cases ho
  refine W.eq (g2 := F0 m 335 ls [.int (nI k)]) rfl ?_
  refine lv_istore (lv' := [(5, .int (nI k)), (0, .ref b), (1, .ref (ad 0 0)), (2, .ref (ad 13 0)), (3, .ref (ad 15 0)), (4, .int (nI i))]) x.1 x.2.1 dd_la_law_335 hl (by decide) rfl (fun ls hl => ?_)
  refine lv_aload_n x.1 x.2.1 dd_la_law_337 rfl (lv_at hl 3 rfl) ?_
  refine lv_aload_n x.1 x.2.1 dd_la_law_338 rfl (lv_at hl 1 rfl) ?_
  refine lv_iload x.1 x.2.1 dd_la_law_339 (lv_at hl 5 rfl) ?_
  refine lv_iconst (v := nI 1) x.1 x.2.1 dd_la_law_341 (by decide +kernel) ?_
  refine lv_iadd x.1 x.2.1 dd_la_law_342 ?_
  refine mn_top (w := nI (i + 1)) (nI_add _ _) ?_
  refine va_sld x.1 x.2.1 hX hbl hbA hS (vp_in_nI (show i + 1 < L by omega) (by omega)) dd_la_law_343 ?_
  refine mn_top (w := xs (i + 1)) (by rw [nI_clamp (by omega)]) ?_
  refine mp_call x (wt_mv _) hG (Nat.le_refl _) hl.1 (mp_invV (av := [.int (xs (i + 1))]) x hH (la13 hL) rfl rfl mn_md_deliver mc_md_deliver (Or.inl ww_845) ww_846 ww_847 rfl dd_la_law_344) (hM _ σa hL) (Nat.le_of_ble_eq_true rfl) (Nat.le_of_ble_eq_true rfl) (by omega) (by omega) hH hS (fun v σa t0 H locs hp20 ht0 hvm hzz hH hS => ?_) (fun _ _ _ _ _ hz _ _ _ _ _ => by cases hz.1)
  obtain ⟨ho, hL⟩ := hp20
  cases ho
  refine W.eq (g2 := F0 m 347 ls [.int rb]) rfl ?_
  refine lv_istore (lv' := [(6, .int rb), (5, .int (nI k)), (0, .ref b), (1, .ref (ad 0 0)), (2, .ref (ad 13 0)), (3, .ref (ad 15 0)), (4, .int (nI i))]) x.1 x.2.1 dd_la_law_347 hl (by decide) rfl (fun ls hl => ?_)
  refine lv_aload_n x.1 x.2.1 dd_la_law_349 rfl (lv_at hl 4 rfl) ?_
  refine mp_call x (wt_mv _) hG (Nat.le_refl _) hl.1 (mp_invV (av := []) x hH (la13 hL) rfl rfl mn_md_thrown mc_md_thrown (Or.inl ww_800) ww_801 ww_802 rfl dd_la_law_350) (kk_M_thrown hL) (Nat.le_of_ble_eq_true rfl) (Nat.le_of_ble_eq_true rfl) (by omega) (by omega) hH hS (fun v σa t0 H locs hp21 ht0 hvm hzz hH hS => ?_) (fun _ _ _ _ _ hz _ _ _ _ _ => by cases hz.1)
  obtain ⟨ho, hL⟩ := hp21
  cases ho
  refine W.eq (g2 := F0 m 353 ls [.int (M1 27 0)]) rfl ?_
  refine mn_top (w := nI k) h27 ?_
  refine lv_iload x.1 x.2.1 dd_la_law_353 (lv_at hl 1 rfl) ?_
  refine lv_icmp_eq (tgt := 360) x.1 x.2.1 dd_la_law_355 (by decide) (fun c22 => ?_) (fun c22 => absurd rfl c22)
  refine lv_iload x.1 x.2.1 dd_la_law_360 (lv_at hl 1 rfl) ?_
  by_cases hk0 : k = 0
  · subst hk0
    obtain rfl := hrb rfl
    refine lv_if_ne (tgt := 377) x.1 x.2.1 dd_la_law_362 (by decide) (fun c23 => absurd (by decide +kernel) c23) (fun c23 => ?_)
    refine lv_aload_n x.1 x.2.1 dd_la_law_365 rfl (lv_at hl 5 rfl) ?_
    refine lv_iconst (v := nI 0) x.1 x.2.1 dd_la_law_366 (by decide +kernel) ?_
    refine ko_ld (v := r) x hH hL (mu_s.trans (hw rfl)) dd_la_law_367 ?_
    refine lv_iload x.1 x.2.1 dd_la_law_368 (lv_at hl 0 rfl) ?_
    refine lv_i2l (v := r.toInt64) x.1 x.2.1 dd_la_law_370 rfl ?_
    refine W.lcmp x.1 x.2.1 dd_la_law_371 ?_
    refine mn_top (w := nI 0) (LCM _) ?_
    refine lv_if_eq (tgt := 377) x.1 x.2.1 dd_la_law_372 (by decide) (fun c24 => ?_) (fun c24 => absurd (by decide +kernel) c24)
    refine lv_goto (tgt := 1139) x.1 x.2.1 dd_la_law_377 (by decide) ?_
    exact go _ _ _ _ _ _ _ _ H locs ls _ _ hL (INV_62 hI1) (by omega) (by omega) (lv_sub hl [2, 3, 4, 5, 6] rfl) hH hS
  · refine lv_if_ne (tgt := 377) x.1 x.2.1 dd_la_law_362 (by decide) (fun c25 => ?_) (fun c25 => absurd c25 (nI_ne0 (by omega) (by omega)))
    refine lv_goto (tgt := 1139) x.1 x.2.1 dd_la_law_377 (by decide) ?_
    exact go _ _ _ _ _ _ _ _ H locs ls _ _ hL (INV_62 hI1) (by omega) (by omega) (lv_sub hl [2, 3, 4, 5, 6] rfl) hH hS
set_option maxRecDepth 100000 in
set_option maxHeartbeats 4000000 in
theorem lt_drop {p : Program} {l : Launch} {e : Env} {s : State} {m : MethodId} {below : List Frame} {meth : Method} {c : Code} {D : va_G} {ar : Nat → ClassId} {b L i cells slots : Nat} {xs : Nat → Int32} {Q : State → Prop} {ad : Nat → Nat → Nat} {rg : Nat → Bool} {pl : Nat → Nat} {V M : fV} {f n : Nat} {σ : mp_M} {H : Heap} {locs : List Loc} {ls : Array Slot} (x : XX D ar p s m #[Value.ref b] c code 7 "SupplyGridLaw") (hG : GG D ar s.heap.size s) (hX : va_X b L xs s s.heap) (hbl : b < s.heap.size) (hfl : l.flags = flags0) (hL : Lay ar ad rg pl V M σ) (hI : INV rg pl V M f n) (hi : i + 5 ≤ L) (hLN : L < 2 ^ 30) (hce : cells + 110 ≤ room_1.cells) (hsl : slots + 800 ≤ room_1.slots) (hl : lv_has ls 7 [(0, .ref b), (1, .ref (ad 0 0)), (2, .ref (ad 13 0)), (3, .ref (ad 15 0)), (4, .int (nI i))]) (hH : HH D s.heap.size σ H) (hS : va_S (mp_A s.heap.size) s.heap H locs) (go : GOON p l e s m below meth c D ar b i cells slots Q) : W p l e room_1 s m #[Value.ref b] below meth c H locs cells slots Q (F0 m 380 ls []) := by
  have hbA : ¬ mp_A s.heap.size b := Nat.not_le.mpr hbl
  refine lv_aload_n x.1 x.2.1 dd_la_law_380 rfl (lv_at hl 1 rfl) ?_
  refine lv_aload_n x.1 x.2.1 dd_la_law_381 rfl (lv_at hl 0 rfl) ?_
  refine lv_iload x.1 x.2.1 dd_la_law_382 (lv_at hl 4 rfl) ?_
  refine lv_iconst (v := nI 1) x.1 x.2.1 dd_la_law_384 (by decide +kernel) ?_
  refine lv_iadd x.1 x.2.1 dd_la_law_385 ?_
  refine mn_top (w := nI (i + 1)) (nI_add _ _) ?_
  refine va_sld x.1 x.2.1 hX hbl hbA hS (vp_in_nI (show i + 1 < L by omega) (by omega)) dd_la_law_386 ?_
  refine mn_top (w := xs (i + 1)) (by rw [nI_clamp (by omega)]) ?_
  refine lv_aload_n x.1 x.2.1 dd_la_law_387 rfl (lv_at hl 3 rfl) ?_
  obtain ⟨k, r, rb, pl1, V1, M1, f1, n1, hC, hM, h27, hrb, hI1, hkm, hbz⟩ := st_drop (l := l) (D := D) (ar := ar) (base := s.heap.size) (ad := ad) (k0 := xs (i + 1)) hfl hI
  refine mp_call x (wt_mv _) hG (Nat.le_refl _) hl.1 (mp_invS (av := [.ref (ad 0 0), .int (xs (i + 1)), .ref (ad 15 0)]) x mn_la_drop mc_la_drop (Or.inl ww_605) ww_606 ww_53 rfl dd_la_law_388) (kk_W_drop hL (hC σ hL) hkm) (Nat.le_of_ble_eq_true rfl) (Nat.le_of_ble_eq_true rfl) (by omega) (by omega) hH hS (fun v σa t0 H locs hp26 ht0 hvm hzz hH hS => ?_) (fun _ _ _ _ _ hz _ _ _ _ _ => by cases hz.1)
  obtain ⟨ho, w, hw, hL⟩ := hp26
  cases ho
  refine W.eq (g2 := F0 m 391 ls [.int (nI k)]) rfl ?_
  refine lv_istore (lv' := [(5, .int (nI k)), (0, .ref b), (1, .ref (ad 0 0)), (2, .ref (ad 13 0)), (3, .ref (ad 15 0)), (4, .int (nI i))]) x.1 x.2.1 dd_la_law_391 hl (by decide) rfl (fun ls hl => ?_)
  refine lv_aload_n x.1 x.2.1 dd_la_law_393 rfl (lv_at hl 3 rfl) ?_
  refine lv_aload_n x.1 x.2.1 dd_la_law_394 rfl (lv_at hl 1 rfl) ?_
  refine lv_iload x.1 x.2.1 dd_la_law_395 (lv_at hl 5 rfl) ?_
  refine lv_iconst (v := nI 1) x.1 x.2.1 dd_la_law_397 (by decide +kernel) ?_
  refine lv_iadd x.1 x.2.1 dd_la_law_398 ?_
  refine mn_top (w := nI (i + 1)) (nI_add _ _) ?_
  refine va_sld x.1 x.2.1 hX hbl hbA hS (vp_in_nI (show i + 1 < L by omega) (by omega)) dd_la_law_399 ?_
  refine mn_top (w := xs (i + 1)) (by rw [nI_clamp (by omega)]) ?_
  refine mp_call x (wt_mv _) hG (Nat.le_refl _) hl.1 (mp_invV (av := [.int (xs (i + 1))]) x hH (la13 hL) rfl rfl mn_md_drop mc_md_drop (Or.inl ww_881) ww_882 ww_883 rfl dd_la_law_400) (hM _ σa hL) (Nat.le_of_ble_eq_true rfl) (Nat.le_of_ble_eq_true rfl) (by omega) (by omega) hH hS (fun v σa t0 H locs hp27 ht0 hvm hzz hH hS => ?_) (fun _ _ _ _ _ hz _ _ _ _ _ => by cases hz.1)
  obtain ⟨ho, hL⟩ := hp27
  cases ho
  refine W.eq (g2 := F0 m 403 ls [.int rb]) rfl ?_
  refine lv_istore (lv' := [(6, .int rb), (5, .int (nI k)), (0, .ref b), (1, .ref (ad 0 0)), (2, .ref (ad 13 0)), (3, .ref (ad 15 0)), (4, .int (nI i))]) x.1 x.2.1 dd_la_law_403 hl (by decide) rfl (fun ls hl => ?_)
  refine lv_aload_n x.1 x.2.1 dd_la_law_405 rfl (lv_at hl 4 rfl) ?_
  refine mp_call x (wt_mv _) hG (Nat.le_refl _) hl.1 (mp_invV (av := []) x hH (la13 hL) rfl rfl mn_md_thrown mc_md_thrown (Or.inl ww_800) ww_801 ww_802 rfl dd_la_law_406) (kk_M_thrown hL) (Nat.le_of_ble_eq_true rfl) (Nat.le_of_ble_eq_true rfl) (by omega) (by omega) hH hS (fun v σa t0 H locs hp28 ht0 hvm hzz hH hS => ?_) (fun _ _ _ _ _ hz _ _ _ _ _ => by cases hz.1)
  obtain ⟨ho, hL⟩ := hp28
  cases ho
  refine W.eq (g2 := F0 m 409 ls [.int (M1 27 0)]) rfl ?_
  refine mn_top (w := nI k) h27 ?_
  refine lv_iload x.1 x.2.1 dd_la_law_409 (lv_at hl 1 rfl) ?_
  refine lv_icmp_eq (tgt := 416) x.1 x.2.1 dd_la_law_411 (by decide) (fun c29 => ?_) (fun c29 => absurd rfl c29)
  refine lv_iload x.1 x.2.1 dd_la_law_416 (lv_at hl 1 rfl) ?_
  by_cases hk0 : k = 0
  · subst hk0
    obtain rfl := hrb rfl
    refine lv_if_ne (tgt := 433) x.1 x.2.1 dd_la_law_418 (by decide) (fun c30 => absurd (by decide +kernel) c30) (fun c30 => ?_)
    refine lv_aload_n x.1 x.2.1 dd_la_law_421 rfl (lv_at hl 5 rfl) ?_
    refine lv_iconst (v := nI 0) x.1 x.2.1 dd_la_law_422 (by decide +kernel) ?_
    refine ko_ld (v := r) x hH hL (mu_s.trans (hw rfl)) dd_la_law_423 ?_
    refine lv_iload x.1 x.2.1 dd_la_law_424 (lv_at hl 0 rfl) ?_
    refine lv_i2l (v := r.toInt64) x.1 x.2.1 dd_la_law_426 rfl ?_
    refine W.lcmp x.1 x.2.1 dd_la_law_427 ?_
    refine mn_top (w := nI 0) (LCM _) ?_
    refine lv_if_eq (tgt := 433) x.1 x.2.1 dd_la_law_428 (by decide) (fun c31 => ?_) (fun c31 => absurd (by decide +kernel) c31)
    refine lv_goto (tgt := 1139) x.1 x.2.1 dd_la_law_433 (by decide) ?_
    exact go _ _ _ _ _ _ _ _ H locs ls _ _ hL (INV_62 hI1) (by omega) (by omega) (lv_sub hl [2, 3, 4, 5, 6] rfl) hH hS
  · refine lv_if_ne (tgt := 433) x.1 x.2.1 dd_la_law_418 (by decide) (fun c32 => ?_) (fun c32 => absurd c32 (nI_ne0 (by omega) (by omega)))
    refine lv_goto (tgt := 1139) x.1 x.2.1 dd_la_law_433 (by decide) ?_
    exact go _ _ _ _ _ _ _ _ H locs ls _ _ hL (INV_62 hI1) (by omega) (by omega) (lv_sub hl [2, 3, 4, 5, 6] rfl) hH hS
set_option maxRecDepth 100000 in
set_option maxHeartbeats 4000000 in
theorem lt_copy {p : Program} {l : Launch} {e : Env} {s : State} {m : MethodId} {below : List Frame} {meth : Method} {c : Code} {D : va_G} {ar : Nat → ClassId} {b L i cells slots : Nat} {xs : Nat → Int32} {Q : State → Prop} {ad : Nat → Nat → Nat} {rg : Nat → Bool} {pl : Nat → Nat} {V M : fV} {f n : Nat} {σ : mp_M} {H : Heap} {locs : List Loc} {ls : Array Slot} (x : XX D ar p s m #[Value.ref b] c code 7 "SupplyGridLaw") (hG : GG D ar s.heap.size s) (hX : va_X b L xs s s.heap) (hbl : b < s.heap.size) (hfl : l.flags = flags0) (hL : Lay ar ad rg pl V M σ) (hI : INV rg pl V M f n) (hi : i + 5 ≤ L) (hLN : L < 2 ^ 30) (hce : cells + 110 ≤ room_1.cells) (hsl : slots + 800 ≤ room_1.slots) (hl : lv_has ls 7 [(0, .ref b), (1, .ref (ad 0 0)), (2, .ref (ad 13 0)), (3, .ref (ad 15 0)), (4, .int (nI i))]) (hH : HH D s.heap.size σ H) (hS : va_S (mp_A s.heap.size) s.heap H locs) (go : GOON p l e s m below meth c D ar b i cells slots Q) : W p l e room_1 s m #[Value.ref b] below meth c H locs cells slots Q (F0 m 436 ls []) := by
  have hbA : ¬ mp_A s.heap.size b := Nat.not_le.mpr hbl
  refine lv_aload_n x.1 x.2.1 dd_la_law_436 rfl (lv_at hl 1 rfl) ?_
  refine lv_aload_n x.1 x.2.1 dd_la_law_437 rfl (lv_at hl 0 rfl) ?_
  refine lv_iload x.1 x.2.1 dd_la_law_438 (lv_at hl 4 rfl) ?_
  refine lv_iconst (v := nI 1) x.1 x.2.1 dd_la_law_440 (by decide +kernel) ?_
  refine lv_iadd x.1 x.2.1 dd_la_law_441 ?_
  refine mn_top (w := nI (i + 1)) (nI_add _ _) ?_
  refine va_sld x.1 x.2.1 hX hbl hbA hS (vp_in_nI (show i + 1 < L by omega) (by omega)) dd_la_law_442 ?_
  refine mn_top (w := xs (i + 1)) (by rw [nI_clamp (by omega)]) ?_
  refine lv_aload_n x.1 x.2.1 dd_la_law_443 rfl (lv_at hl 3 rfl) ?_
  obtain ⟨k, r, rb, pl1, V1, M1, f1, n1, hC, hM, h27, hrb, hI1, hkm, hbz⟩ := st_copy (l := l) (D := D) (ar := ar) (base := s.heap.size) (ad := ad) (k0 := xs (i + 1)) hfl hI
  refine mp_call x (wt_mv _) hG (Nat.le_refl _) hl.1 (mp_invS (av := [.ref (ad 0 0), .int (xs (i + 1)), .ref (ad 15 0)]) x mn_la_copy mc_la_copy (Or.inl ww_612) ww_613 ww_53 rfl dd_la_law_444) (kk_W_copy hL (hC σ hL) hkm (hbz rfl)) (Nat.le_of_ble_eq_true rfl) (Nat.le_of_ble_eq_true rfl) (by omega) (by omega) hH hS (fun v σa t0 H locs hp33 ht0 hvm hzz hH hS => ?_) (fun _ _ _ _ _ hz _ _ _ _ _ => by cases hz.1)
  obtain ⟨ho, w, hw, hL⟩ := hp33
  cases ho
  refine W.eq (g2 := F0 m 447 ls [.int (nI k)]) rfl ?_
  refine lv_istore (lv' := [(5, .int (nI k)), (0, .ref b), (1, .ref (ad 0 0)), (2, .ref (ad 13 0)), (3, .ref (ad 15 0)), (4, .int (nI i))]) x.1 x.2.1 dd_la_law_447 hl (by decide) rfl (fun ls hl => ?_)
  refine lv_aload_n x.1 x.2.1 dd_la_law_449 rfl (lv_at hl 3 rfl) ?_
  refine lv_aload_n x.1 x.2.1 dd_la_law_450 rfl (lv_at hl 1 rfl) ?_
  refine lv_iload x.1 x.2.1 dd_la_law_451 (lv_at hl 5 rfl) ?_
  refine lv_iconst (v := nI 1) x.1 x.2.1 dd_la_law_453 (by decide +kernel) ?_
  refine lv_iadd x.1 x.2.1 dd_la_law_454 ?_
  refine mn_top (w := nI (i + 1)) (nI_add _ _) ?_
  refine va_sld x.1 x.2.1 hX hbl hbA hS (vp_in_nI (show i + 1 < L by omega) (by omega)) dd_la_law_455 ?_
  refine mn_top (w := xs (i + 1)) (by rw [nI_clamp (by omega)]) ?_
  refine mp_call x (wt_mv _) hG (Nat.le_refl _) hl.1 (mp_invV (av := [.int (xs (i + 1))]) x hH (la13 hL) rfl rfl mn_md_copy mc_md_copy (Or.inl ww_885) ww_886 ww_887 rfl dd_la_law_456) (hM _ σa hL) (Nat.le_of_ble_eq_true rfl) (Nat.le_of_ble_eq_true rfl) (by omega) (by omega) hH hS (fun v σa t0 H locs hp34 ht0 hvm hzz hH hS => ?_) (fun _ _ _ _ _ hz _ _ _ _ _ => by cases hz.1)
  obtain ⟨ho, hL⟩ := hp34
  cases ho
  refine W.eq (g2 := F0 m 459 ls [.int rb]) rfl ?_
  refine lv_istore (lv' := [(6, .int rb), (5, .int (nI k)), (0, .ref b), (1, .ref (ad 0 0)), (2, .ref (ad 13 0)), (3, .ref (ad 15 0)), (4, .int (nI i))]) x.1 x.2.1 dd_la_law_459 hl (by decide) rfl (fun ls hl => ?_)
  refine lv_aload_n x.1 x.2.1 dd_la_law_461 rfl (lv_at hl 4 rfl) ?_
  refine mp_call x (wt_mv _) hG (Nat.le_refl _) hl.1 (mp_invV (av := []) x hH (la13 hL) rfl rfl mn_md_thrown mc_md_thrown (Or.inl ww_800) ww_801 ww_802 rfl dd_la_law_462) (kk_M_thrown hL) (Nat.le_of_ble_eq_true rfl) (Nat.le_of_ble_eq_true rfl) (by omega) (by omega) hH hS (fun v σa t0 H locs hp35 ht0 hvm hzz hH hS => ?_) (fun _ _ _ _ _ hz _ _ _ _ _ => by cases hz.1)
  obtain ⟨ho, hL⟩ := hp35
  cases ho
  refine W.eq (g2 := F0 m 465 ls [.int (M1 27 0)]) rfl ?_
  refine mn_top (w := nI k) h27 ?_
  refine lv_iload x.1 x.2.1 dd_la_law_465 (lv_at hl 1 rfl) ?_
  refine lv_icmp_eq (tgt := 472) x.1 x.2.1 dd_la_law_467 (by decide) (fun c36 => ?_) (fun c36 => absurd rfl c36)
  refine lv_iload x.1 x.2.1 dd_la_law_472 (lv_at hl 1 rfl) ?_
  by_cases hk0 : k = 0
  · subst hk0
    obtain rfl := hrb rfl
    rcases hbz rfl with rfl | rfl
    · skip
      refine lv_if_ne (tgt := 496) x.1 x.2.1 dd_la_law_474 (by decide) (fun c37 => absurd (by decide +kernel) c37) (fun c37 => ?_)
      refine lv_aload_n x.1 x.2.1 dd_la_law_477 rfl (lv_at hl 5 rfl) ?_
      refine lv_iconst (v := nI 0) x.1 x.2.1 dd_la_law_478 (by decide +kernel) ?_
      refine ko_ld (v := nI 0) x hH hL (mu_s.trans (hw rfl)) dd_la_law_479 ?_
      refine lv_iload x.1 x.2.1 dd_la_law_480 (lv_at hl 0 rfl) ?_
      refine lv_if_eq (tgt := 489) x.1 x.2.1 dd_la_law_482 (by decide) (fun c38 => ?_) (fun c38 => absurd (by decide +kernel) c38)
      refine lv_lconst (v := 0) x.1 x.2.1 dd_la_law_489 (by decide +kernel) ?_
      refine W.lcmp x.1 x.2.1 dd_la_law_490 ?_
      refine mn_top (w := nI 0) (by decide +kernel) ?_
      refine lv_if_eq (tgt := 496) x.1 x.2.1 dd_la_law_491 (by decide) (fun c39 => ?_) (fun c39 => absurd (by decide +kernel) c39)
      refine lv_goto (tgt := 1139) x.1 x.2.1 dd_la_law_496 (by decide) ?_
      exact go _ _ _ _ _ _ _ _ H locs ls _ _ hL (INV_62 hI1) (by omega) (by omega) (lv_sub hl [2, 3, 4, 5, 6] rfl) hH hS
    · skip
      refine lv_if_ne (tgt := 496) x.1 x.2.1 dd_la_law_474 (by decide) (fun c40 => absurd (by decide +kernel) c40) (fun c40 => ?_)
      refine lv_aload_n x.1 x.2.1 dd_la_law_477 rfl (lv_at hl 5 rfl) ?_
      refine lv_iconst (v := nI 0) x.1 x.2.1 dd_la_law_478 (by decide +kernel) ?_
      refine ko_ld (v := nI 1) x hH hL (mu_s.trans (hw rfl)) dd_la_law_479 ?_
      refine lv_iload x.1 x.2.1 dd_la_law_480 (lv_at hl 0 rfl) ?_
      refine lv_if_eq (tgt := 489) x.1 x.2.1 dd_la_law_482 (by decide) (fun c41 => absurd c41 (by decide +kernel)) (fun c41 => ?_)
      refine lv_lconst (v := 1) x.1 x.2.1 dd_la_law_485 (by decide +kernel) ?_
      refine lv_goto (tgt := 490) x.1 x.2.1 dd_la_law_486 (by decide) ?_
      refine W.lcmp x.1 x.2.1 dd_la_law_490 ?_
      refine mn_top (w := nI 0) (by decide +kernel) ?_
      refine lv_if_eq (tgt := 496) x.1 x.2.1 dd_la_law_491 (by decide) (fun c42 => ?_) (fun c42 => absurd (by decide +kernel) c42)
      refine lv_goto (tgt := 1139) x.1 x.2.1 dd_la_law_496 (by decide) ?_
      exact go _ _ _ _ _ _ _ _ H locs ls _ _ hL (INV_62 hI1) (by omega) (by omega) (lv_sub hl [2, 3, 4, 5, 6] rfl) hH hS
  · refine lv_if_ne (tgt := 496) x.1 x.2.1 dd_la_law_474 (by decide) (fun c43 => ?_) (fun c43 => absurd c43 (nI_ne0 (by omega) (by omega)))
    refine lv_goto (tgt := 1139) x.1 x.2.1 dd_la_law_496 (by decide) ?_
    exact go _ _ _ _ _ _ _ _ H locs ls _ _ hL (INV_62 hI1) (by omega) (by omega) (lv_sub hl [2, 3, 4, 5, 6] rfl) hH hS
set_option maxRecDepth 100000 in
set_option maxHeartbeats 4000000 in
theorem lt_deliverAll {p : Program} {l : Launch} {e : Env} {s : State} {m : MethodId} {below : List Frame} {meth : Method} {c : Code} {D : va_G} {ar : Nat → ClassId} {b L i cells slots : Nat} {xs : Nat → Int32} {Q : State → Prop} {ad : Nat → Nat → Nat} {rg : Nat → Bool} {pl : Nat → Nat} {V M : fV} {f n : Nat} {σ : mp_M} {H : Heap} {locs : List Loc} {ls : Array Slot} (x : XX D ar p s m #[Value.ref b] c code 7 "SupplyGridLaw") (hG : GG D ar s.heap.size s) (hX : va_X b L xs s s.heap) (hbl : b < s.heap.size) (hfl : l.flags = flags0) (hL : Lay ar ad rg pl V M σ) (hI : INV rg pl V M f n) (hi : i + 5 ≤ L) (hLN : L < 2 ^ 30) (hce : cells + 110 ≤ room_1.cells) (hsl : slots + 800 ≤ room_1.slots) (hl : lv_has ls 7 [(0, .ref b), (1, .ref (ad 0 0)), (2, .ref (ad 13 0)), (3, .ref (ad 15 0)), (4, .int (nI i))]) (hH : HH D s.heap.size σ H) (hS : va_S (mp_A s.heap.size) s.heap H locs) (go : GOON p l e s m below meth c D ar b i cells slots Q) : W p l e room_1 s m #[Value.ref b] below meth c H locs cells slots Q (F0 m 499 ls []) := by
  have hbA : ¬ mp_A s.heap.size b := Nat.not_le.mpr hbl
  refine lv_aload_n x.1 x.2.1 dd_la_law_499 rfl (lv_at hl 1 rfl) ?_
  refine lv_aload_n x.1 x.2.1 dd_la_law_500 rfl (lv_at hl 0 rfl) ?_
  refine lv_iload x.1 x.2.1 dd_la_law_501 (lv_at hl 4 rfl) ?_
  refine lv_iconst (v := nI 1) x.1 x.2.1 dd_la_law_503 (by decide +kernel) ?_
  refine lv_iadd x.1 x.2.1 dd_la_law_504 ?_
  refine mn_top (w := nI (i + 1)) (nI_add _ _) ?_
  refine va_sld x.1 x.2.1 hX hbl hbA hS (vp_in_nI (show i + 1 < L by omega) (by omega)) dd_la_law_505 ?_
  refine mn_top (w := xs (i + 1)) (by rw [nI_clamp (by omega)]) ?_
  refine lv_aload_n x.1 x.2.1 dd_la_law_506 rfl (lv_at hl 3 rfl) ?_
  obtain ⟨k, r, rb, pl1, V1, M1, f1, n1, hC, hM, h27, hrb, hI1, hkm, hbz⟩ := st_deliverAll (l := l) (D := D) (ar := ar) (base := s.heap.size) (ad := ad) (k0 := xs (i + 1)) hfl hI
  refine mp_call x (wt_mv _) hG (Nat.le_refl _) hl.1 (mp_invS (av := [.ref (ad 0 0), .int (xs (i + 1)), .ref (ad 15 0)]) x mn_la_deliverAll mc_la_deliverAll (Or.inl ww_623) ww_624 ww_53 rfl dd_la_law_507) (kk_W_deliverAll hL (hC σ hL) hkm) (Nat.le_of_ble_eq_true rfl) (Nat.le_of_ble_eq_true rfl) (by omega) (by omega) hH hS (fun v σa t0 H locs hp44 ht0 hvm hzz hH hS => ?_) (fun _ _ _ _ _ hz _ _ _ _ _ => by cases hz.1)
  obtain ⟨ho, w, hw, hL⟩ := hp44
  cases ho
  refine W.eq (g2 := F0 m 510 ls [.int (nI k)]) rfl ?_
  refine lv_istore (lv' := [(5, .int (nI k)), (0, .ref b), (1, .ref (ad 0 0)), (2, .ref (ad 13 0)), (3, .ref (ad 15 0)), (4, .int (nI i))]) x.1 x.2.1 dd_la_law_510 hl (by decide) rfl (fun ls hl => ?_)
  refine lv_aload_n x.1 x.2.1 dd_la_law_512 rfl (lv_at hl 3 rfl) ?_
  refine lv_aload_n x.1 x.2.1 dd_la_law_513 rfl (lv_at hl 1 rfl) ?_
  refine lv_iload x.1 x.2.1 dd_la_law_514 (lv_at hl 5 rfl) ?_
  refine lv_iconst (v := nI 1) x.1 x.2.1 dd_la_law_516 (by decide +kernel) ?_
  refine lv_iadd x.1 x.2.1 dd_la_law_517 ?_
  refine mn_top (w := nI (i + 1)) (nI_add _ _) ?_
  refine va_sld x.1 x.2.1 hX hbl hbA hS (vp_in_nI (show i + 1 < L by omega) (by omega)) dd_la_law_518 ?_
  refine mn_top (w := xs (i + 1)) (by rw [nI_clamp (by omega)]) ?_
  refine mp_call x (wt_mv _) hG (Nat.le_refl _) hl.1 (mp_invV (av := [.int (xs (i + 1))]) x hH (la13 hL) rfl rfl mn_md_deliverAll mc_md_deliverAll (Or.inl ww_889) ww_890 ww_891 rfl dd_la_law_519) (hM _ σa hL) (Nat.le_of_ble_eq_true rfl) (Nat.le_of_ble_eq_true rfl) (by omega) (by omega) hH hS (fun v σa t0 H locs hp45 ht0 hvm hzz hH hS => ?_) (fun _ _ _ _ _ hz _ _ _ _ _ => by cases hz.1)
  obtain ⟨ho, hL⟩ := hp45
  cases ho
  refine W.eq (g2 := F0 m 522 ls [.int rb]) rfl ?_
  refine lv_istore (lv' := [(6, .int rb), (5, .int (nI k)), (0, .ref b), (1, .ref (ad 0 0)), (2, .ref (ad 13 0)), (3, .ref (ad 15 0)), (4, .int (nI i))]) x.1 x.2.1 dd_la_law_522 hl (by decide) rfl (fun ls hl => ?_)
  refine lv_aload_n x.1 x.2.1 dd_la_law_524 rfl (lv_at hl 4 rfl) ?_
  refine mp_call x (wt_mv _) hG (Nat.le_refl _) hl.1 (mp_invV (av := []) x hH (la13 hL) rfl rfl mn_md_thrown mc_md_thrown (Or.inl ww_800) ww_801 ww_802 rfl dd_la_law_525) (kk_M_thrown hL) (Nat.le_of_ble_eq_true rfl) (Nat.le_of_ble_eq_true rfl) (by omega) (by omega) hH hS (fun v σa t0 H locs hp46 ht0 hvm hzz hH hS => ?_) (fun _ _ _ _ _ hz _ _ _ _ _ => by cases hz.1)
  obtain ⟨ho, hL⟩ := hp46
  cases ho
  refine W.eq (g2 := F0 m 528 ls [.int (M1 27 0)]) rfl ?_
  refine mn_top (w := nI k) h27 ?_
  refine lv_iload x.1 x.2.1 dd_la_law_528 (lv_at hl 1 rfl) ?_
  refine lv_icmp_eq (tgt := 535) x.1 x.2.1 dd_la_law_530 (by decide) (fun c47 => ?_) (fun c47 => absurd rfl c47)
  refine lv_iload x.1 x.2.1 dd_la_law_535 (lv_at hl 1 rfl) ?_
  by_cases hk0 : k = 0
  · subst hk0
    obtain rfl := hrb rfl
    refine lv_if_ne (tgt := 552) x.1 x.2.1 dd_la_law_537 (by decide) (fun c48 => absurd (by decide +kernel) c48) (fun c48 => ?_)
    refine lv_aload_n x.1 x.2.1 dd_la_law_540 rfl (lv_at hl 5 rfl) ?_
    refine lv_iconst (v := nI 0) x.1 x.2.1 dd_la_law_541 (by decide +kernel) ?_
    refine ko_ld (v := r) x hH hL (mu_s.trans (hw rfl)) dd_la_law_542 ?_
    refine lv_iload x.1 x.2.1 dd_la_law_543 (lv_at hl 0 rfl) ?_
    refine lv_i2l (v := r.toInt64) x.1 x.2.1 dd_la_law_545 rfl ?_
    refine W.lcmp x.1 x.2.1 dd_la_law_546 ?_
    refine mn_top (w := nI 0) (LCM _) ?_
    refine lv_if_eq (tgt := 552) x.1 x.2.1 dd_la_law_547 (by decide) (fun c49 => ?_) (fun c49 => absurd (by decide +kernel) c49)
    refine lv_goto (tgt := 1139) x.1 x.2.1 dd_la_law_552 (by decide) ?_
    exact go _ _ _ _ _ _ _ _ H locs ls _ _ hL (INV_62 hI1) (by omega) (by omega) (lv_sub hl [2, 3, 4, 5, 6] rfl) hH hS
  · refine lv_if_ne (tgt := 552) x.1 x.2.1 dd_la_law_537 (by decide) (fun c50 => ?_) (fun c50 => absurd c50 (nI_ne0 (by omega) (by omega)))
    refine lv_goto (tgt := 1139) x.1 x.2.1 dd_la_law_552 (by decide) ?_
    exact go _ _ _ _ _ _ _ _ H locs ls _ _ hL (INV_62 hI1) (by omega) (by omega) (lv_sub hl [2, 3, 4, 5, 6] rfl) hH hS
set_option maxRecDepth 100000 in
set_option maxHeartbeats 4000000 in
theorem lt_up {p : Program} {l : Launch} {e : Env} {s : State} {m : MethodId} {below : List Frame} {meth : Method} {c : Code} {D : va_G} {ar : Nat → ClassId} {b L i cells slots : Nat} {xs : Nat → Int32} {Q : State → Prop} {ad : Nat → Nat → Nat} {rg : Nat → Bool} {pl : Nat → Nat} {V M : fV} {f n : Nat} {σ : mp_M} {H : Heap} {locs : List Loc} {ls : Array Slot} (x : XX D ar p s m #[Value.ref b] c code 7 "SupplyGridLaw") (hG : GG D ar s.heap.size s) (hX : va_X b L xs s s.heap) (hbl : b < s.heap.size) (hfl : l.flags = flags0) (hL : Lay ar ad rg pl V M σ) (hI : INV rg pl V M f n) (hi : i + 5 ≤ L) (hLN : L < 2 ^ 30) (hce : cells + 110 ≤ room_1.cells) (hsl : slots + 800 ≤ room_1.slots) (hl : lv_has ls 7 [(0, .ref b), (1, .ref (ad 0 0)), (2, .ref (ad 13 0)), (3, .ref (ad 15 0)), (4, .int (nI i))]) (hH : HH D s.heap.size σ H) (hS : va_S (mp_A s.heap.size) s.heap H locs) (go : GOON p l e s m below meth c D ar b i cells slots Q) : W p l e room_1 s m #[Value.ref b] below meth c H locs cells slots Q (F0 m 555 ls []) := by
  have hbA : ¬ mp_A s.heap.size b := Nat.not_le.mpr hbl
  refine lv_aload_n x.1 x.2.1 dd_la_law_555 rfl (lv_at hl 1 rfl) ?_
  refine lv_aload_n x.1 x.2.1 dd_la_law_556 rfl (lv_at hl 0 rfl) ?_
  refine lv_iload x.1 x.2.1 dd_la_law_557 (lv_at hl 4 rfl) ?_
  refine lv_iconst (v := nI 1) x.1 x.2.1 dd_la_law_559 (by decide +kernel) ?_
  refine lv_iadd x.1 x.2.1 dd_la_law_560 ?_
  refine mn_top (w := nI (i + 1)) (nI_add _ _) ?_
  refine va_sld x.1 x.2.1 hX hbl hbA hS (vp_in_nI (show i + 1 < L by omega) (by omega)) dd_la_law_561 ?_
  refine mn_top (w := xs (i + 1)) (by rw [nI_clamp (by omega)]) ?_
  refine lv_aload_n x.1 x.2.1 dd_la_law_562 rfl (lv_at hl 0 rfl) ?_
  refine lv_iload x.1 x.2.1 dd_la_law_563 (lv_at hl 4 rfl) ?_
  refine lv_iconst (v := nI 2) x.1 x.2.1 dd_la_law_565 (by decide +kernel) ?_
  refine lv_iadd x.1 x.2.1 dd_la_law_566 ?_
  refine mn_top (w := nI (i + 2)) (nI_add _ _) ?_
  refine va_sld x.1 x.2.1 hX hbl hbA hS (vp_in_nI (show i + 2 < L by omega) (by omega)) dd_la_law_567 ?_
  refine mn_top (w := xs (i + 2)) (by rw [nI_clamp (by omega)]) ?_
  refine lv_if_eq (tgt := 575) x.1 x.2.1 dd_la_law_568 (by decide) (fun c51 => ?_) (fun c51 => ?_)
  · refine lv_iconst (v := nI 0) x.1 x.2.1 dd_la_law_575 (by decide +kernel) ?_
    refine lv_aload_n x.1 x.2.1 dd_la_law_576 rfl (lv_at hl 3 rfl) ?_
    obtain ⟨k, r, rb, pl1, V1, M1, f1, n1, hC, hM, h27, hrb, hI1, hkm, hbz⟩ := st_up (l := l) (D := D) (ar := ar) (base := s.heap.size) (ad := ad) (k0 := xs (i + 1)) (b0 := 0) (Or.inl rfl) hfl hI
    refine mp_call x (wt_mv _) hG (Nat.le_refl _) hl.1 (mp_invS (av := [.ref (ad 0 0), .int (xs (i + 1)), .int (nI 0), .ref (ad 15 0)]) x mn_la_up mc_la_up (Or.inl ww_630) ww_631 ww_53 rfl dd_la_law_577) (kk_W_up hL (hC σ hL) hkm (hbz rfl)) (Nat.le_of_ble_eq_true rfl) (Nat.le_of_ble_eq_true rfl) (by omega) (by omega) hH hS (fun v σa t0 H locs hp52 ht0 hvm hzz hH hS => ?_) (fun _ _ _ _ _ hz _ _ _ _ _ => by cases hz.1)
    obtain ⟨ho, w, hw, hL⟩ := hp52
    cases ho
    refine W.eq (g2 := F0 m 580 ls [.int (nI k)]) rfl ?_
    refine lv_istore (lv' := [(5, .int (nI k)), (0, .ref b), (1, .ref (ad 0 0)), (2, .ref (ad 13 0)), (3, .ref (ad 15 0)), (4, .int (nI i))]) x.1 x.2.1 dd_la_law_580 hl (by decide) rfl (fun ls hl => ?_)
    refine lv_aload_n x.1 x.2.1 dd_la_law_582 rfl (lv_at hl 3 rfl) ?_
    refine lv_aload_n x.1 x.2.1 dd_la_law_583 rfl (lv_at hl 1 rfl) ?_
    refine lv_iload x.1 x.2.1 dd_la_law_584 (lv_at hl 5 rfl) ?_
    refine lv_iconst (v := nI 1) x.1 x.2.1 dd_la_law_586 (by decide +kernel) ?_
    refine lv_iadd x.1 x.2.1 dd_la_law_587 ?_
    refine mn_top (w := nI (i + 1)) (nI_add _ _) ?_
    refine va_sld x.1 x.2.1 hX hbl hbA hS (vp_in_nI (show i + 1 < L by omega) (by omega)) dd_la_law_588 ?_
    refine mn_top (w := xs (i + 1)) (by rw [nI_clamp (by omega)]) ?_
    refine lv_aload_n x.1 x.2.1 dd_la_law_589 rfl (lv_at hl 1 rfl) ?_
    refine lv_iload x.1 x.2.1 dd_la_law_590 (lv_at hl 5 rfl) ?_
    refine lv_iconst (v := nI 2) x.1 x.2.1 dd_la_law_592 (by decide +kernel) ?_
    refine lv_iadd x.1 x.2.1 dd_la_law_593 ?_
    refine mn_top (w := nI (i + 2)) (nI_add _ _) ?_
    refine va_sld x.1 x.2.1 hX hbl hbA hS (vp_in_nI (show i + 2 < L by omega) (by omega)) dd_la_law_594 ?_
    refine mn_top (w := xs (i + 2)) (by rw [nI_clamp (by omega)]) ?_
    refine lv_if_eq (tgt := 602) x.1 x.2.1 dd_la_law_595 (by decide) (fun c53 => ?_) (fun c53 => absurd c51 c53)
    refine lv_iconst (v := nI 0) x.1 x.2.1 dd_la_law_602 (by decide +kernel) ?_
    refine mp_call x (wt_mv _) hG (Nat.le_refl _) hl.1 (mp_invV (av := [.int (xs (i + 1)), .int (nI 0)]) x hH (la13 hL) rfl rfl mn_md_up mc_md_up (Or.inl ww_893) ww_894 ww_895 rfl dd_la_law_603) (hM _ σa hL) (Nat.le_of_ble_eq_true rfl) (Nat.le_of_ble_eq_true rfl) (by omega) (by omega) hH hS (fun v σa t0 H locs hp54 ht0 hvm hzz hH hS => ?_) (fun _ _ _ _ _ hz _ _ _ _ _ => by cases hz.1)
    obtain ⟨ho, hL⟩ := hp54
    cases ho
    refine W.eq (g2 := F0 m 606 ls [.int rb]) rfl ?_
    refine lv_istore (lv' := [(6, .int rb), (5, .int (nI k)), (0, .ref b), (1, .ref (ad 0 0)), (2, .ref (ad 13 0)), (3, .ref (ad 15 0)), (4, .int (nI i))]) x.1 x.2.1 dd_la_law_606 hl (by decide) rfl (fun ls hl => ?_)
    refine lv_aload_n x.1 x.2.1 dd_la_law_608 rfl (lv_at hl 4 rfl) ?_
    refine mp_call x (wt_mv _) hG (Nat.le_refl _) hl.1 (mp_invV (av := []) x hH (la13 hL) rfl rfl mn_md_thrown mc_md_thrown (Or.inl ww_800) ww_801 ww_802 rfl dd_la_law_609) (kk_M_thrown hL) (Nat.le_of_ble_eq_true rfl) (Nat.le_of_ble_eq_true rfl) (by omega) (by omega) hH hS (fun v σa t0 H locs hp55 ht0 hvm hzz hH hS => ?_) (fun _ _ _ _ _ hz _ _ _ _ _ => by cases hz.1)
    obtain ⟨ho, hL⟩ := hp55
    cases ho
    refine W.eq (g2 := F0 m 612 ls [.int (M1 27 0)]) rfl ?_
    refine mn_top (w := nI k) h27 ?_
    refine lv_iload x.1 x.2.1 dd_la_law_612 (lv_at hl 1 rfl) ?_
    refine lv_icmp_eq (tgt := 619) x.1 x.2.1 dd_la_law_614 (by decide) (fun c56 => ?_) (fun c56 => absurd rfl c56)
    refine lv_iload x.1 x.2.1 dd_la_law_619 (lv_at hl 1 rfl) ?_
    by_cases hk0 : k = 0
    · subst hk0
      obtain rfl := hrb rfl
      rcases hbz rfl with rfl | rfl
      · skip
        refine lv_if_ne (tgt := 643) x.1 x.2.1 dd_la_law_621 (by decide) (fun c57 => absurd (by decide +kernel) c57) (fun c57 => ?_)
        refine lv_aload_n x.1 x.2.1 dd_la_law_624 rfl (lv_at hl 5 rfl) ?_
        refine lv_iconst (v := nI 0) x.1 x.2.1 dd_la_law_625 (by decide +kernel) ?_
        refine ko_ld (v := nI 0) x hH hL (mu_s.trans (hw rfl)) dd_la_law_626 ?_
        refine lv_iload x.1 x.2.1 dd_la_law_627 (lv_at hl 0 rfl) ?_
        refine lv_if_eq (tgt := 636) x.1 x.2.1 dd_la_law_629 (by decide) (fun c58 => ?_) (fun c58 => absurd (by decide +kernel) c58)
        refine lv_lconst (v := 0) x.1 x.2.1 dd_la_law_636 (by decide +kernel) ?_
        refine W.lcmp x.1 x.2.1 dd_la_law_637 ?_
        refine mn_top (w := nI 0) (by decide +kernel) ?_
        refine lv_if_eq (tgt := 643) x.1 x.2.1 dd_la_law_638 (by decide) (fun c59 => ?_) (fun c59 => absurd (by decide +kernel) c59)
        refine lv_goto (tgt := 1139) x.1 x.2.1 dd_la_law_643 (by decide) ?_
        exact go _ _ _ _ _ _ _ _ H locs ls _ _ hL (INV_62 hI1) (by omega) (by omega) (lv_sub hl [2, 3, 4, 5, 6] rfl) hH hS
      · skip
        refine lv_if_ne (tgt := 643) x.1 x.2.1 dd_la_law_621 (by decide) (fun c60 => absurd (by decide +kernel) c60) (fun c60 => ?_)
        refine lv_aload_n x.1 x.2.1 dd_la_law_624 rfl (lv_at hl 5 rfl) ?_
        refine lv_iconst (v := nI 0) x.1 x.2.1 dd_la_law_625 (by decide +kernel) ?_
        refine ko_ld (v := nI 1) x hH hL (mu_s.trans (hw rfl)) dd_la_law_626 ?_
        refine lv_iload x.1 x.2.1 dd_la_law_627 (lv_at hl 0 rfl) ?_
        refine lv_if_eq (tgt := 636) x.1 x.2.1 dd_la_law_629 (by decide) (fun c61 => absurd c61 (by decide +kernel)) (fun c61 => ?_)
        refine lv_lconst (v := 1) x.1 x.2.1 dd_la_law_632 (by decide +kernel) ?_
        refine lv_goto (tgt := 637) x.1 x.2.1 dd_la_law_633 (by decide) ?_
        refine W.lcmp x.1 x.2.1 dd_la_law_637 ?_
        refine mn_top (w := nI 0) (by decide +kernel) ?_
        refine lv_if_eq (tgt := 643) x.1 x.2.1 dd_la_law_638 (by decide) (fun c62 => ?_) (fun c62 => absurd (by decide +kernel) c62)
        refine lv_goto (tgt := 1139) x.1 x.2.1 dd_la_law_643 (by decide) ?_
        exact go _ _ _ _ _ _ _ _ H locs ls _ _ hL (INV_62 hI1) (by omega) (by omega) (lv_sub hl [2, 3, 4, 5, 6] rfl) hH hS
    · refine lv_if_ne (tgt := 643) x.1 x.2.1 dd_la_law_621 (by decide) (fun c63 => ?_) (fun c63 => absurd c63 (nI_ne0 (by omega) (by omega)))
      refine lv_goto (tgt := 1139) x.1 x.2.1 dd_la_law_643 (by decide) ?_
      exact go _ _ _ _ _ _ _ _ H locs ls _ _ hL (INV_62 hI1) (by omega) (by omega) (lv_sub hl [2, 3, 4, 5, 6] rfl) hH hS
  · refine lv_iconst (v := nI 1) x.1 x.2.1 dd_la_law_571 (by decide +kernel) ?_
    refine lv_goto (tgt := 576) x.1 x.2.1 dd_la_law_572 (by decide) ?_
    refine lv_aload_n x.1 x.2.1 dd_la_law_576 rfl (lv_at hl 3 rfl) ?_
    obtain ⟨k, r, rb, pl1, V1, M1, f1, n1, hC, hM, h27, hrb, hI1, hkm, hbz⟩ := st_up (l := l) (D := D) (ar := ar) (base := s.heap.size) (ad := ad) (k0 := xs (i + 1)) (b0 := 1) (Or.inr rfl) hfl hI
    refine mp_call x (wt_mv _) hG (Nat.le_refl _) hl.1 (mp_invS (av := [.ref (ad 0 0), .int (xs (i + 1)), .int (nI 1), .ref (ad 15 0)]) x mn_la_up mc_la_up (Or.inl ww_630) ww_631 ww_53 rfl dd_la_law_577) (kk_W_up hL (hC σ hL) hkm (hbz rfl)) (Nat.le_of_ble_eq_true rfl) (Nat.le_of_ble_eq_true rfl) (by omega) (by omega) hH hS (fun v σa t0 H locs hp64 ht0 hvm hzz hH hS => ?_) (fun _ _ _ _ _ hz _ _ _ _ _ => by cases hz.1)
    obtain ⟨ho, w, hw, hL⟩ := hp64
    cases ho
    refine W.eq (g2 := F0 m 580 ls [.int (nI k)]) rfl ?_
    refine lv_istore (lv' := [(5, .int (nI k)), (0, .ref b), (1, .ref (ad 0 0)), (2, .ref (ad 13 0)), (3, .ref (ad 15 0)), (4, .int (nI i))]) x.1 x.2.1 dd_la_law_580 hl (by decide) rfl (fun ls hl => ?_)
    refine lv_aload_n x.1 x.2.1 dd_la_law_582 rfl (lv_at hl 3 rfl) ?_
    refine lv_aload_n x.1 x.2.1 dd_la_law_583 rfl (lv_at hl 1 rfl) ?_
    refine lv_iload x.1 x.2.1 dd_la_law_584 (lv_at hl 5 rfl) ?_
    refine lv_iconst (v := nI 1) x.1 x.2.1 dd_la_law_586 (by decide +kernel) ?_
    refine lv_iadd x.1 x.2.1 dd_la_law_587 ?_
    refine mn_top (w := nI (i + 1)) (nI_add _ _) ?_
    refine va_sld x.1 x.2.1 hX hbl hbA hS (vp_in_nI (show i + 1 < L by omega) (by omega)) dd_la_law_588 ?_
    refine mn_top (w := xs (i + 1)) (by rw [nI_clamp (by omega)]) ?_
    refine lv_aload_n x.1 x.2.1 dd_la_law_589 rfl (lv_at hl 1 rfl) ?_
    refine lv_iload x.1 x.2.1 dd_la_law_590 (lv_at hl 5 rfl) ?_
    refine lv_iconst (v := nI 2) x.1 x.2.1 dd_la_law_592 (by decide +kernel) ?_
    refine lv_iadd x.1 x.2.1 dd_la_law_593 ?_
    refine mn_top (w := nI (i + 2)) (nI_add _ _) ?_
    refine va_sld x.1 x.2.1 hX hbl hbA hS (vp_in_nI (show i + 2 < L by omega) (by omega)) dd_la_law_594 ?_
    refine mn_top (w := xs (i + 2)) (by rw [nI_clamp (by omega)]) ?_
    refine lv_if_eq (tgt := 602) x.1 x.2.1 dd_la_law_595 (by decide) (fun c65 => absurd c65 c51) (fun c65 => ?_)
    refine lv_iconst (v := nI 1) x.1 x.2.1 dd_la_law_598 (by decide +kernel) ?_
    refine lv_goto (tgt := 603) x.1 x.2.1 dd_la_law_599 (by decide) ?_
    refine mp_call x (wt_mv _) hG (Nat.le_refl _) hl.1 (mp_invV (av := [.int (xs (i + 1)), .int (nI 1)]) x hH (la13 hL) rfl rfl mn_md_up mc_md_up (Or.inl ww_893) ww_894 ww_895 rfl dd_la_law_603) (hM _ σa hL) (Nat.le_of_ble_eq_true rfl) (Nat.le_of_ble_eq_true rfl) (by omega) (by omega) hH hS (fun v σa t0 H locs hp66 ht0 hvm hzz hH hS => ?_) (fun _ _ _ _ _ hz _ _ _ _ _ => by cases hz.1)
    obtain ⟨ho, hL⟩ := hp66
    cases ho
    refine W.eq (g2 := F0 m 606 ls [.int rb]) rfl ?_
    refine lv_istore (lv' := [(6, .int rb), (5, .int (nI k)), (0, .ref b), (1, .ref (ad 0 0)), (2, .ref (ad 13 0)), (3, .ref (ad 15 0)), (4, .int (nI i))]) x.1 x.2.1 dd_la_law_606 hl (by decide) rfl (fun ls hl => ?_)
    refine lv_aload_n x.1 x.2.1 dd_la_law_608 rfl (lv_at hl 4 rfl) ?_
    refine mp_call x (wt_mv _) hG (Nat.le_refl _) hl.1 (mp_invV (av := []) x hH (la13 hL) rfl rfl mn_md_thrown mc_md_thrown (Or.inl ww_800) ww_801 ww_802 rfl dd_la_law_609) (kk_M_thrown hL) (Nat.le_of_ble_eq_true rfl) (Nat.le_of_ble_eq_true rfl) (by omega) (by omega) hH hS (fun v σa t0 H locs hp67 ht0 hvm hzz hH hS => ?_) (fun _ _ _ _ _ hz _ _ _ _ _ => by cases hz.1)
    obtain ⟨ho, hL⟩ := hp67
    cases ho
    refine W.eq (g2 := F0 m 612 ls [.int (M1 27 0)]) rfl ?_
    refine mn_top (w := nI k) h27 ?_
    refine lv_iload x.1 x.2.1 dd_la_law_612 (lv_at hl 1 rfl) ?_
    refine lv_icmp_eq (tgt := 619) x.1 x.2.1 dd_la_law_614 (by decide) (fun c68 => ?_) (fun c68 => absurd rfl c68)
    refine lv_iload x.1 x.2.1 dd_la_law_619 (lv_at hl 1 rfl) ?_
    by_cases hk0 : k = 0
    · subst hk0
      obtain rfl := hrb rfl
      rcases hbz rfl with rfl | rfl
      · skip
        refine lv_if_ne (tgt := 643) x.1 x.2.1 dd_la_law_621 (by decide) (fun c69 => absurd (by decide +kernel) c69) (fun c69 => ?_)
        refine lv_aload_n x.1 x.2.1 dd_la_law_624 rfl (lv_at hl 5 rfl) ?_
        refine lv_iconst (v := nI 0) x.1 x.2.1 dd_la_law_625 (by decide +kernel) ?_
        refine ko_ld (v := nI 0) x hH hL (mu_s.trans (hw rfl)) dd_la_law_626 ?_
        refine lv_iload x.1 x.2.1 dd_la_law_627 (lv_at hl 0 rfl) ?_
        refine lv_if_eq (tgt := 636) x.1 x.2.1 dd_la_law_629 (by decide) (fun c70 => ?_) (fun c70 => absurd (by decide +kernel) c70)
        refine lv_lconst (v := 0) x.1 x.2.1 dd_la_law_636 (by decide +kernel) ?_
        refine W.lcmp x.1 x.2.1 dd_la_law_637 ?_
        refine mn_top (w := nI 0) (by decide +kernel) ?_
        refine lv_if_eq (tgt := 643) x.1 x.2.1 dd_la_law_638 (by decide) (fun c71 => ?_) (fun c71 => absurd (by decide +kernel) c71)
        refine lv_goto (tgt := 1139) x.1 x.2.1 dd_la_law_643 (by decide) ?_
        exact go _ _ _ _ _ _ _ _ H locs ls _ _ hL (INV_62 hI1) (by omega) (by omega) (lv_sub hl [2, 3, 4, 5, 6] rfl) hH hS
      · skip
        refine lv_if_ne (tgt := 643) x.1 x.2.1 dd_la_law_621 (by decide) (fun c72 => absurd (by decide +kernel) c72) (fun c72 => ?_)
        refine lv_aload_n x.1 x.2.1 dd_la_law_624 rfl (lv_at hl 5 rfl) ?_
        refine lv_iconst (v := nI 0) x.1 x.2.1 dd_la_law_625 (by decide +kernel) ?_
        refine ko_ld (v := nI 1) x hH hL (mu_s.trans (hw rfl)) dd_la_law_626 ?_
        refine lv_iload x.1 x.2.1 dd_la_law_627 (lv_at hl 0 rfl) ?_
        refine lv_if_eq (tgt := 636) x.1 x.2.1 dd_la_law_629 (by decide) (fun c73 => absurd c73 (by decide +kernel)) (fun c73 => ?_)
        refine lv_lconst (v := 1) x.1 x.2.1 dd_la_law_632 (by decide +kernel) ?_
        refine lv_goto (tgt := 637) x.1 x.2.1 dd_la_law_633 (by decide) ?_
        refine W.lcmp x.1 x.2.1 dd_la_law_637 ?_
        refine mn_top (w := nI 0) (by decide +kernel) ?_
        refine lv_if_eq (tgt := 643) x.1 x.2.1 dd_la_law_638 (by decide) (fun c74 => ?_) (fun c74 => absurd (by decide +kernel) c74)
        refine lv_goto (tgt := 1139) x.1 x.2.1 dd_la_law_643 (by decide) ?_
        exact go _ _ _ _ _ _ _ _ H locs ls _ _ hL (INV_62 hI1) (by omega) (by omega) (lv_sub hl [2, 3, 4, 5, 6] rfl) hH hS
    · refine lv_if_ne (tgt := 643) x.1 x.2.1 dd_la_law_621 (by decide) (fun c75 => ?_) (fun c75 => absurd c75 (nI_ne0 (by omega) (by omega)))
      refine lv_goto (tgt := 1139) x.1 x.2.1 dd_la_law_643 (by decide) ?_
      exact go _ _ _ _ _ _ _ _ H locs ls _ _ hL (INV_62 hI1) (by omega) (by omega) (lv_sub hl [2, 3, 4, 5, 6] rfl) hH hS
set_option maxRecDepth 100000 in
set_option maxHeartbeats 4000000 in
theorem lt_teach {p : Program} {l : Launch} {e : Env} {s : State} {m : MethodId} {below : List Frame} {meth : Method} {c : Code} {D : va_G} {ar : Nat → ClassId} {b L i cells slots : Nat} {xs : Nat → Int32} {Q : State → Prop} {ad : Nat → Nat → Nat} {rg : Nat → Bool} {pl : Nat → Nat} {V M : fV} {f n : Nat} {σ : mp_M} {H : Heap} {locs : List Loc} {ls : Array Slot} (x : XX D ar p s m #[Value.ref b] c code 7 "SupplyGridLaw") (hG : GG D ar s.heap.size s) (hX : va_X b L xs s s.heap) (hbl : b < s.heap.size) (hfl : l.flags = flags0) (hL : Lay ar ad rg pl V M σ) (hI : INV rg pl V M f n) (hi : i + 5 ≤ L) (hLN : L < 2 ^ 30) (hce : cells + 110 ≤ room_1.cells) (hsl : slots + 800 ≤ room_1.slots) (hl : lv_has ls 7 [(0, .ref b), (1, .ref (ad 0 0)), (2, .ref (ad 13 0)), (3, .ref (ad 15 0)), (4, .int (nI i))]) (hH : HH D s.heap.size σ H) (hS : va_S (mp_A s.heap.size) s.heap H locs) (go : GOON p l e s m below meth c D ar b i cells slots Q) : W p l e room_1 s m #[Value.ref b] below meth c H locs cells slots Q (F0 m 646 ls []) := by
  have hbA : ¬ mp_A s.heap.size b := Nat.not_le.mpr hbl
  refine lv_aload_n x.1 x.2.1 dd_la_law_646 rfl (lv_at hl 1 rfl) ?_
  refine lv_aload_n x.1 x.2.1 dd_la_law_647 rfl (lv_at hl 0 rfl) ?_
  refine lv_iload x.1 x.2.1 dd_la_law_648 (lv_at hl 4 rfl) ?_
  refine lv_iconst (v := nI 1) x.1 x.2.1 dd_la_law_650 (by decide +kernel) ?_
  refine lv_iadd x.1 x.2.1 dd_la_law_651 ?_
  refine mn_top (w := nI (i + 1)) (nI_add _ _) ?_
  refine va_sld x.1 x.2.1 hX hbl hbA hS (vp_in_nI (show i + 1 < L by omega) (by omega)) dd_la_law_652 ?_
  refine mn_top (w := xs (i + 1)) (by rw [nI_clamp (by omega)]) ?_
  refine lv_aload_n x.1 x.2.1 dd_la_law_653 rfl (lv_at hl 0 rfl) ?_
  refine lv_iload x.1 x.2.1 dd_la_law_654 (lv_at hl 4 rfl) ?_
  refine lv_iconst (v := nI 2) x.1 x.2.1 dd_la_law_656 (by decide +kernel) ?_
  refine lv_iadd x.1 x.2.1 dd_la_law_657 ?_
  refine mn_top (w := nI (i + 2)) (nI_add _ _) ?_
  refine va_sld x.1 x.2.1 hX hbl hbA hS (vp_in_nI (show i + 2 < L by omega) (by omega)) dd_la_law_658 ?_
  refine mn_top (w := xs (i + 2)) (by rw [nI_clamp (by omega)]) ?_
  refine lv_aload_n x.1 x.2.1 dd_la_law_659 rfl (lv_at hl 0 rfl) ?_
  refine lv_iload x.1 x.2.1 dd_la_law_660 (lv_at hl 4 rfl) ?_
  refine lv_iconst (v := nI 3) x.1 x.2.1 dd_la_law_662 (by decide +kernel) ?_
  refine lv_iadd x.1 x.2.1 dd_la_law_663 ?_
  refine mn_top (w := nI (i + 3)) (nI_add _ _) ?_
  refine va_sld x.1 x.2.1 hX hbl hbA hS (vp_in_nI (show i + 3 < L by omega) (by omega)) dd_la_law_664 ?_
  refine mn_top (w := xs (i + 3)) (by rw [nI_clamp (by omega)]) ?_
  refine lv_aload_n x.1 x.2.1 dd_la_law_665 rfl (lv_at hl 3 rfl) ?_
  obtain ⟨k, r, rb, pl1, V1, M1, f1, n1, hC, hM, h27, hrb, hI1, hkm, hbz⟩ := st_teach (l := l) (D := D) (ar := ar) (base := s.heap.size) (ad := ad) (k0 := xs (i + 1)) (k1 := xs (i + 2)) (k2 := xs (i + 3)) hfl hI
  refine mp_call x (wt_mv _) hG (Nat.le_refl _) hl.1 (mp_invS (av := [.ref (ad 0 0), .int (xs (i + 1)), .int (xs (i + 2)), .int (xs (i + 3)), .ref (ad 15 0)]) x mn_la_teach mc_la_teach (Or.inl ww_641) ww_642 ww_53 rfl dd_la_law_666) (kk_W_teach hL (hC σ hL) hkm (hbz rfl)) (Nat.le_of_ble_eq_true rfl) (Nat.le_of_ble_eq_true rfl) (by omega) (by omega) hH hS (fun v σa t0 H locs hp76 ht0 hvm hzz hH hS => ?_) (fun _ _ _ _ _ hz _ _ _ _ _ => by cases hz.1)
  obtain ⟨ho, w, hw, hL⟩ := hp76
  cases ho
  refine W.eq (g2 := F0 m 669 ls [.int (nI k)]) rfl ?_
  refine lv_istore (lv' := [(5, .int (nI k)), (0, .ref b), (1, .ref (ad 0 0)), (2, .ref (ad 13 0)), (3, .ref (ad 15 0)), (4, .int (nI i))]) x.1 x.2.1 dd_la_law_669 hl (by decide) rfl (fun ls hl => ?_)
  refine lv_aload_n x.1 x.2.1 dd_la_law_671 rfl (lv_at hl 3 rfl) ?_
  refine lv_aload_n x.1 x.2.1 dd_la_law_672 rfl (lv_at hl 1 rfl) ?_
  refine lv_iload x.1 x.2.1 dd_la_law_673 (lv_at hl 5 rfl) ?_
  refine lv_iconst (v := nI 1) x.1 x.2.1 dd_la_law_675 (by decide +kernel) ?_
  refine lv_iadd x.1 x.2.1 dd_la_law_676 ?_
  refine mn_top (w := nI (i + 1)) (nI_add _ _) ?_
  refine va_sld x.1 x.2.1 hX hbl hbA hS (vp_in_nI (show i + 1 < L by omega) (by omega)) dd_la_law_677 ?_
  refine mn_top (w := xs (i + 1)) (by rw [nI_clamp (by omega)]) ?_
  refine lv_aload_n x.1 x.2.1 dd_la_law_678 rfl (lv_at hl 1 rfl) ?_
  refine lv_iload x.1 x.2.1 dd_la_law_679 (lv_at hl 5 rfl) ?_
  refine lv_iconst (v := nI 2) x.1 x.2.1 dd_la_law_681 (by decide +kernel) ?_
  refine lv_iadd x.1 x.2.1 dd_la_law_682 ?_
  refine mn_top (w := nI (i + 2)) (nI_add _ _) ?_
  refine va_sld x.1 x.2.1 hX hbl hbA hS (vp_in_nI (show i + 2 < L by omega) (by omega)) dd_la_law_683 ?_
  refine mn_top (w := xs (i + 2)) (by rw [nI_clamp (by omega)]) ?_
  refine lv_aload_n x.1 x.2.1 dd_la_law_684 rfl (lv_at hl 1 rfl) ?_
  refine lv_iload x.1 x.2.1 dd_la_law_685 (lv_at hl 5 rfl) ?_
  refine lv_iconst (v := nI 3) x.1 x.2.1 dd_la_law_687 (by decide +kernel) ?_
  refine lv_iadd x.1 x.2.1 dd_la_law_688 ?_
  refine mn_top (w := nI (i + 3)) (nI_add _ _) ?_
  refine va_sld x.1 x.2.1 hX hbl hbA hS (vp_in_nI (show i + 3 < L by omega) (by omega)) dd_la_law_689 ?_
  refine mn_top (w := xs (i + 3)) (by rw [nI_clamp (by omega)]) ?_
  refine mp_call x (wt_mv _) hG (Nat.le_refl _) hl.1 (mp_invV (av := [.int (xs (i + 1)), .int (xs (i + 2)), .int (xs (i + 3))]) x hH (la13 hL) rfl rfl mn_md_teach mc_md_teach (Or.inl ww_897) ww_898 ww_899 rfl dd_la_law_690) (hM _ σa hL) (Nat.le_of_ble_eq_true rfl) (Nat.le_of_ble_eq_true rfl) (by omega) (by omega) hH hS (fun v σa t0 H locs hp77 ht0 hvm hzz hH hS => ?_) (fun _ _ _ _ _ hz _ _ _ _ _ => by cases hz.1)
  obtain ⟨ho, hL⟩ := hp77
  cases ho
  refine W.eq (g2 := F0 m 693 ls [.int rb]) rfl ?_
  refine lv_istore (lv' := [(6, .int rb), (5, .int (nI k)), (0, .ref b), (1, .ref (ad 0 0)), (2, .ref (ad 13 0)), (3, .ref (ad 15 0)), (4, .int (nI i))]) x.1 x.2.1 dd_la_law_693 hl (by decide) rfl (fun ls hl => ?_)
  refine lv_aload_n x.1 x.2.1 dd_la_law_695 rfl (lv_at hl 4 rfl) ?_
  refine mp_call x (wt_mv _) hG (Nat.le_refl _) hl.1 (mp_invV (av := []) x hH (la13 hL) rfl rfl mn_md_thrown mc_md_thrown (Or.inl ww_800) ww_801 ww_802 rfl dd_la_law_696) (kk_M_thrown hL) (Nat.le_of_ble_eq_true rfl) (Nat.le_of_ble_eq_true rfl) (by omega) (by omega) hH hS (fun v σa t0 H locs hp78 ht0 hvm hzz hH hS => ?_) (fun _ _ _ _ _ hz _ _ _ _ _ => by cases hz.1)
  obtain ⟨ho, hL⟩ := hp78
  cases ho
  refine W.eq (g2 := F0 m 699 ls [.int (M1 27 0)]) rfl ?_
  refine mn_top (w := nI k) h27 ?_
  refine lv_iload x.1 x.2.1 dd_la_law_699 (lv_at hl 1 rfl) ?_
  refine lv_icmp_eq (tgt := 706) x.1 x.2.1 dd_la_law_701 (by decide) (fun c79 => ?_) (fun c79 => absurd rfl c79)
  refine lv_iload x.1 x.2.1 dd_la_law_706 (lv_at hl 1 rfl) ?_
  by_cases hk0 : k = 0
  · subst hk0
    obtain rfl := hrb rfl
    rcases hbz rfl with rfl | rfl
    · skip
      refine lv_if_ne (tgt := 730) x.1 x.2.1 dd_la_law_708 (by decide) (fun c80 => absurd (by decide +kernel) c80) (fun c80 => ?_)
      refine lv_aload_n x.1 x.2.1 dd_la_law_711 rfl (lv_at hl 5 rfl) ?_
      refine lv_iconst (v := nI 0) x.1 x.2.1 dd_la_law_712 (by decide +kernel) ?_
      refine ko_ld (v := nI 0) x hH hL (mu_s.trans (hw rfl)) dd_la_law_713 ?_
      refine lv_iload x.1 x.2.1 dd_la_law_714 (lv_at hl 0 rfl) ?_
      refine lv_if_eq (tgt := 723) x.1 x.2.1 dd_la_law_716 (by decide) (fun c81 => ?_) (fun c81 => absurd (by decide +kernel) c81)
      refine lv_lconst (v := 0) x.1 x.2.1 dd_la_law_723 (by decide +kernel) ?_
      refine W.lcmp x.1 x.2.1 dd_la_law_724 ?_
      refine mn_top (w := nI 0) (by decide +kernel) ?_
      refine lv_if_eq (tgt := 730) x.1 x.2.1 dd_la_law_725 (by decide) (fun c82 => ?_) (fun c82 => absurd (by decide +kernel) c82)
      refine lv_goto (tgt := 1139) x.1 x.2.1 dd_la_law_730 (by decide) ?_
      exact go _ _ _ _ _ _ _ _ H locs ls _ _ hL (INV_62 hI1) (by omega) (by omega) (lv_sub hl [2, 3, 4, 5, 6] rfl) hH hS
    · skip
      refine lv_if_ne (tgt := 730) x.1 x.2.1 dd_la_law_708 (by decide) (fun c83 => absurd (by decide +kernel) c83) (fun c83 => ?_)
      refine lv_aload_n x.1 x.2.1 dd_la_law_711 rfl (lv_at hl 5 rfl) ?_
      refine lv_iconst (v := nI 0) x.1 x.2.1 dd_la_law_712 (by decide +kernel) ?_
      refine ko_ld (v := nI 1) x hH hL (mu_s.trans (hw rfl)) dd_la_law_713 ?_
      refine lv_iload x.1 x.2.1 dd_la_law_714 (lv_at hl 0 rfl) ?_
      refine lv_if_eq (tgt := 723) x.1 x.2.1 dd_la_law_716 (by decide) (fun c84 => absurd c84 (by decide +kernel)) (fun c84 => ?_)
      refine lv_lconst (v := 1) x.1 x.2.1 dd_la_law_719 (by decide +kernel) ?_
      refine lv_goto (tgt := 724) x.1 x.2.1 dd_la_law_720 (by decide) ?_
      refine W.lcmp x.1 x.2.1 dd_la_law_724 ?_
      refine mn_top (w := nI 0) (by decide +kernel) ?_
      refine lv_if_eq (tgt := 730) x.1 x.2.1 dd_la_law_725 (by decide) (fun c85 => ?_) (fun c85 => absurd (by decide +kernel) c85)
      refine lv_goto (tgt := 1139) x.1 x.2.1 dd_la_law_730 (by decide) ?_
      exact go _ _ _ _ _ _ _ _ H locs ls _ _ hL (INV_62 hI1) (by omega) (by omega) (lv_sub hl [2, 3, 4, 5, 6] rfl) hH hS
  · refine lv_if_ne (tgt := 730) x.1 x.2.1 dd_la_law_708 (by decide) (fun c86 => ?_) (fun c86 => absurd c86 (nI_ne0 (by omega) (by omega)))
    refine lv_goto (tgt := 1139) x.1 x.2.1 dd_la_law_730 (by decide) ?_
    exact go _ _ _ _ _ _ _ _ H locs ls _ _ hL (INV_62 hI1) (by omega) (by omega) (lv_sub hl [2, 3, 4, 5, 6] rfl) hH hS
set_option maxRecDepth 100000 in
set_option maxHeartbeats 4000000 in
theorem lt_pool {p : Program} {l : Launch} {e : Env} {s : State} {m : MethodId} {below : List Frame} {meth : Method} {c : Code} {D : va_G} {ar : Nat → ClassId} {b L i cells slots : Nat} {xs : Nat → Int32} {Q : State → Prop} {ad : Nat → Nat → Nat} {rg : Nat → Bool} {pl : Nat → Nat} {V M : fV} {f n : Nat} {σ : mp_M} {H : Heap} {locs : List Loc} {ls : Array Slot} (x : XX D ar p s m #[Value.ref b] c code 7 "SupplyGridLaw") (hG : GG D ar s.heap.size s) (hX : va_X b L xs s s.heap) (hbl : b < s.heap.size) (hfl : l.flags = flags0) (hL : Lay ar ad rg pl V M σ) (hI : INV rg pl V M f n) (hi : i + 5 ≤ L) (hLN : L < 2 ^ 30) (hce : cells + 110 ≤ room_1.cells) (hsl : slots + 800 ≤ room_1.slots) (hl : lv_has ls 7 [(0, .ref b), (1, .ref (ad 0 0)), (2, .ref (ad 13 0)), (3, .ref (ad 15 0)), (4, .int (nI i))]) (hH : HH D s.heap.size σ H) (hS : va_S (mp_A s.heap.size) s.heap H locs) (go : GOON p l e s m below meth c D ar b i cells slots Q) : W p l e room_1 s m #[Value.ref b] below meth c H locs cells slots Q (F0 m 733 ls []) := by
  have hbA : ¬ mp_A s.heap.size b := Nat.not_le.mpr hbl
  refine lv_aload_n x.1 x.2.1 dd_la_law_733 rfl (lv_at hl 1 rfl) ?_
  refine mp_call x (wt_mv _) hG (Nat.le_refl _) hl.1 (mp_invV (av := []) x hH (la0 hL) rfl rfl mn_sg_pool mc_sg_pool (Or.inl ww_285) ww_286 ww_287 rfl dd_la_law_734) (kk_X_pool hL) (Nat.le_of_ble_eq_true rfl) (Nat.le_of_ble_eq_true rfl) (by omega) (by omega) hH hS (fun v σa t0 H locs hp87 ht0 hvm hzz hH hS => ?_) (fun _ _ _ _ _ hz _ _ _ _ _ => by cases hz.1)
  obtain ⟨ho, hL⟩ := hp87
  cases ho
  refine W.eq (g2 := F0 m 737 ls [.int (V 55 0)]) rfl ?_
  refine lv_aload_n x.1 x.2.1 dd_la_law_737 rfl (lv_at hl 2 rfl) ?_
  refine mp_call x (wt_mv _) hG (Nat.le_refl _) hl.1 (mp_invV (av := []) x hH (la13 hL) rfl rfl mn_md_pool mc_md_pool (Or.inl ww_901) ww_902 ww_903 rfl dd_la_law_738) (kk_MX_pool hL) (Nat.le_of_ble_eq_true rfl) (Nat.le_of_ble_eq_true rfl) (by omega) (by omega) hH hS (fun v σa t0 H locs hp88 ht0 hvm hzz hH hS => ?_) (fun _ _ _ _ _ hz _ _ _ _ _ => by cases hz.1)
  obtain ⟨ho, hL⟩ := hp88
  cases ho
  refine W.eq (g2 := F0 m 741 ls [.int (M 22 0), .int (V 55 0)]) rfl ?_
  refine lv_icmp_eq (tgt := 1139) x.1 x.2.1 dd_la_law_741 (by decide) (fun c89 => ?_) (fun c89 => absurd (hI.1.1.2.2.1.trans hI.1.2.1.symm) c89)
  exact go _ _ _ _ _ _ _ _ H locs ls _ _ hL (INV_27 hI) (by omega) (by omega) (lv_sub hl [0, 1, 2, 3, 4] rfl) hH hS
set_option maxRecDepth 100000 in
set_option maxHeartbeats 4000000 in
theorem lt_letter {p : Program} {l : Launch} {e : Env} {s : State} {m : MethodId} {below : List Frame} {meth : Method} {c : Code} {D : va_G} {ar : Nat → ClassId} {b L i cells slots : Nat} {xs : Nat → Int32} {Q : State → Prop} {ad : Nat → Nat → Nat} {rg : Nat → Bool} {pl : Nat → Nat} {V M : fV} {f n : Nat} {σ : mp_M} {H : Heap} {locs : List Loc} {ls : Array Slot} (x : XX D ar p s m #[Value.ref b] c code 7 "SupplyGridLaw") (hG : GG D ar s.heap.size s) (hX : va_X b L xs s s.heap) (hbl : b < s.heap.size) (hfl : l.flags = flags0) (hL : Lay ar ad rg pl V M σ) (hI : INV rg pl V M f n) (hi : i + 5 ≤ L) (hLN : L < 2 ^ 30) (hce : cells + 110 ≤ room_1.cells) (hsl : slots + 800 ≤ room_1.slots) (hl : lv_has ls 7 [(0, .ref b), (1, .ref (ad 0 0)), (2, .ref (ad 13 0)), (3, .ref (ad 15 0)), (4, .int (nI i))]) (hH : HH D s.heap.size σ H) (hS : va_S (mp_A s.heap.size) s.heap H locs) (go : GOON p l e s m below meth c D ar b i cells slots Q) : W p l e room_1 s m #[Value.ref b] below meth c H locs cells slots Q (F0 m 746 ls []) := by
  have hbA : ¬ mp_A s.heap.size b := Nat.not_le.mpr hbl
  refine lv_aload_n x.1 x.2.1 dd_la_law_746 rfl (lv_at hl 1 rfl) ?_
  refine lv_aload_n x.1 x.2.1 dd_la_law_747 rfl (lv_at hl 0 rfl) ?_
  refine lv_iload x.1 x.2.1 dd_la_law_748 (lv_at hl 4 rfl) ?_
  refine lv_iconst (v := nI 1) x.1 x.2.1 dd_la_law_750 (by decide +kernel) ?_
  refine lv_iadd x.1 x.2.1 dd_la_law_751 ?_
  refine mn_top (w := nI (i + 1)) (nI_add _ _) ?_
  refine va_sld x.1 x.2.1 hX hbl hbA hS (vp_in_nI (show i + 1 < L by omega) (by omega)) dd_la_law_752 ?_
  refine mn_top (w := xs (i + 1)) (by rw [nI_clamp (by omega)]) ?_
  refine lv_aload_n x.1 x.2.1 dd_la_law_753 rfl (lv_at hl 0 rfl) ?_
  refine lv_iload x.1 x.2.1 dd_la_law_754 (lv_at hl 4 rfl) ?_
  refine lv_iconst (v := nI 2) x.1 x.2.1 dd_la_law_756 (by decide +kernel) ?_
  refine lv_iadd x.1 x.2.1 dd_la_law_757 ?_
  refine mn_top (w := nI (i + 2)) (nI_add _ _) ?_
  refine va_sld x.1 x.2.1 hX hbl hbA hS (vp_in_nI (show i + 2 < L by omega) (by omega)) dd_la_law_758 ?_
  refine mn_top (w := xs (i + 2)) (by rw [nI_clamp (by omega)]) ?_
  refine lv_aload_n x.1 x.2.1 dd_la_law_759 rfl (lv_at hl 3 rfl) ?_
  obtain ⟨k, r, rb, pl1, V1, M1, f1, n1, hC, hM, h27, hrb, hI1, hkm, hbz⟩ := st_letter (l := l) (D := D) (ar := ar) (base := s.heap.size) (ad := ad) (k0 := xs (i + 1)) (k1 := xs (i + 2)) hfl hI
  refine mp_call x (wt_mv _) hG (Nat.le_refl _) hl.1 (mp_invS (av := [.ref (ad 0 0), .int (xs (i + 1)), .int (xs (i + 2)), .ref (ad 15 0)]) x mn_la_letter mc_la_letter (Or.inl ww_648) ww_649 ww_53 rfl dd_la_law_760) (kk_W_letter hL (hC σ hL) hkm) (Nat.le_of_ble_eq_true rfl) (Nat.le_of_ble_eq_true rfl) (by omega) (by omega) hH hS (fun v σa t0 H locs hp90 ht0 hvm hzz hH hS => ?_) (fun _ _ _ _ _ hz _ _ _ _ _ => by cases hz.1)
  obtain ⟨ho, w, hw, hL⟩ := hp90
  cases ho
  refine W.eq (g2 := F0 m 763 ls [.int (nI k)]) rfl ?_
  refine lv_istore (lv' := [(5, .int (nI k)), (0, .ref b), (1, .ref (ad 0 0)), (2, .ref (ad 13 0)), (3, .ref (ad 15 0)), (4, .int (nI i))]) x.1 x.2.1 dd_la_law_763 hl (by decide) rfl (fun ls hl => ?_)
  refine lv_aload_n x.1 x.2.1 dd_la_law_765 rfl (lv_at hl 3 rfl) ?_
  refine lv_aload_n x.1 x.2.1 dd_la_law_766 rfl (lv_at hl 1 rfl) ?_
  refine lv_iload x.1 x.2.1 dd_la_law_767 (lv_at hl 5 rfl) ?_
  refine lv_iconst (v := nI 1) x.1 x.2.1 dd_la_law_769 (by decide +kernel) ?_
  refine lv_iadd x.1 x.2.1 dd_la_law_770 ?_
  refine mn_top (w := nI (i + 1)) (nI_add _ _) ?_
  refine va_sld x.1 x.2.1 hX hbl hbA hS (vp_in_nI (show i + 1 < L by omega) (by omega)) dd_la_law_771 ?_
  refine mn_top (w := xs (i + 1)) (by rw [nI_clamp (by omega)]) ?_
  refine lv_aload_n x.1 x.2.1 dd_la_law_772 rfl (lv_at hl 1 rfl) ?_
  refine lv_iload x.1 x.2.1 dd_la_law_773 (lv_at hl 5 rfl) ?_
  refine lv_iconst (v := nI 2) x.1 x.2.1 dd_la_law_775 (by decide +kernel) ?_
  refine lv_iadd x.1 x.2.1 dd_la_law_776 ?_
  refine mn_top (w := nI (i + 2)) (nI_add _ _) ?_
  refine va_sld x.1 x.2.1 hX hbl hbA hS (vp_in_nI (show i + 2 < L by omega) (by omega)) dd_la_law_777 ?_
  refine mn_top (w := xs (i + 2)) (by rw [nI_clamp (by omega)]) ?_
  refine mp_call x (wt_mv _) hG (Nat.le_refl _) hl.1 (mp_invV (av := [.int (xs (i + 1)), .int (xs (i + 2))]) x hH (la13 hL) rfl rfl mn_md_letter mc_md_letter (Or.inl ww_905) ww_906 ww_907 rfl dd_la_law_778) (hM _ σa hL) (Nat.le_of_ble_eq_true rfl) (Nat.le_of_ble_eq_true rfl) (by omega) (by omega) hH hS (fun v σa t0 H locs hp91 ht0 hvm hzz hH hS => ?_) (fun _ _ _ _ _ hz _ _ _ _ _ => by cases hz.1)
  obtain ⟨ho, hL⟩ := hp91
  cases ho
  refine W.eq (g2 := F0 m 781 ls [.int rb]) rfl ?_
  refine lv_istore (lv' := [(6, .int rb), (5, .int (nI k)), (0, .ref b), (1, .ref (ad 0 0)), (2, .ref (ad 13 0)), (3, .ref (ad 15 0)), (4, .int (nI i))]) x.1 x.2.1 dd_la_law_781 hl (by decide) rfl (fun ls hl => ?_)
  refine lv_aload_n x.1 x.2.1 dd_la_law_783 rfl (lv_at hl 4 rfl) ?_
  refine mp_call x (wt_mv _) hG (Nat.le_refl _) hl.1 (mp_invV (av := []) x hH (la13 hL) rfl rfl mn_md_thrown mc_md_thrown (Or.inl ww_800) ww_801 ww_802 rfl dd_la_law_784) (kk_M_thrown hL) (Nat.le_of_ble_eq_true rfl) (Nat.le_of_ble_eq_true rfl) (by omega) (by omega) hH hS (fun v σa t0 H locs hp92 ht0 hvm hzz hH hS => ?_) (fun _ _ _ _ _ hz _ _ _ _ _ => by cases hz.1)
  obtain ⟨ho, hL⟩ := hp92
  cases ho
  refine W.eq (g2 := F0 m 787 ls [.int (M1 27 0)]) rfl ?_
  refine mn_top (w := nI k) h27 ?_
  refine lv_iload x.1 x.2.1 dd_la_law_787 (lv_at hl 1 rfl) ?_
  refine lv_icmp_eq (tgt := 794) x.1 x.2.1 dd_la_law_789 (by decide) (fun c93 => ?_) (fun c93 => absurd rfl c93)
  refine lv_iload x.1 x.2.1 dd_la_law_794 (lv_at hl 1 rfl) ?_
  by_cases hk0 : k = 0
  · subst hk0
    obtain rfl := hrb rfl
    refine lv_if_ne (tgt := 811) x.1 x.2.1 dd_la_law_796 (by decide) (fun c94 => absurd (by decide +kernel) c94) (fun c94 => ?_)
    refine lv_aload_n x.1 x.2.1 dd_la_law_799 rfl (lv_at hl 5 rfl) ?_
    refine lv_iconst (v := nI 0) x.1 x.2.1 dd_la_law_800 (by decide +kernel) ?_
    refine ko_ld (v := r) x hH hL (mu_s.trans (hw rfl)) dd_la_law_801 ?_
    refine lv_iload x.1 x.2.1 dd_la_law_802 (lv_at hl 0 rfl) ?_
    refine lv_i2l (v := r.toInt64) x.1 x.2.1 dd_la_law_804 rfl ?_
    refine W.lcmp x.1 x.2.1 dd_la_law_805 ?_
    refine mn_top (w := nI 0) (LCM _) ?_
    refine lv_if_eq (tgt := 811) x.1 x.2.1 dd_la_law_806 (by decide) (fun c95 => ?_) (fun c95 => absurd (by decide +kernel) c95)
    refine lv_goto (tgt := 1139) x.1 x.2.1 dd_la_law_811 (by decide) ?_
    exact go _ _ _ _ _ _ _ _ H locs ls _ _ hL (INV_62 hI1) (by omega) (by omega) (lv_sub hl [2, 3, 4, 5, 6] rfl) hH hS
  · refine lv_if_ne (tgt := 811) x.1 x.2.1 dd_la_law_796 (by decide) (fun c96 => ?_) (fun c96 => absurd c96 (nI_ne0 (by omega) (by omega)))
    refine lv_goto (tgt := 1139) x.1 x.2.1 dd_la_law_811 (by decide) ?_
    exact go _ _ _ _ _ _ _ _ H locs ls _ _ hL (INV_62 hI1) (by omega) (by omega) (lv_sub hl [2, 3, 4, 5, 6] rfl) hH hS
set_option maxRecDepth 100000 in
set_option maxHeartbeats 4000000 in
theorem lt_state {p : Program} {l : Launch} {e : Env} {s : State} {m : MethodId} {below : List Frame} {meth : Method} {c : Code} {D : va_G} {ar : Nat → ClassId} {b L i cells slots : Nat} {xs : Nat → Int32} {Q : State → Prop} {ad : Nat → Nat → Nat} {rg : Nat → Bool} {pl : Nat → Nat} {V M : fV} {f n : Nat} {σ : mp_M} {H : Heap} {locs : List Loc} {ls : Array Slot} (x : XX D ar p s m #[Value.ref b] c code 7 "SupplyGridLaw") (hG : GG D ar s.heap.size s) (hX : va_X b L xs s s.heap) (hbl : b < s.heap.size) (hfl : l.flags = flags0) (hL : Lay ar ad rg pl V M σ) (hI : INV rg pl V M f n) (hi : i + 5 ≤ L) (hLN : L < 2 ^ 30) (hce : cells + 110 ≤ room_1.cells) (hsl : slots + 800 ≤ room_1.slots) (hl : lv_has ls 7 [(0, .ref b), (1, .ref (ad 0 0)), (2, .ref (ad 13 0)), (3, .ref (ad 15 0)), (4, .int (nI i))]) (hH : HH D s.heap.size σ H) (hS : va_S (mp_A s.heap.size) s.heap H locs) (go : GOON p l e s m below meth c D ar b i cells slots Q) : W p l e room_1 s m #[Value.ref b] below meth c H locs cells slots Q (F0 m 814 ls []) := by
  have hbA : ¬ mp_A s.heap.size b := Nat.not_le.mpr hbl
  refine lv_aload_n x.1 x.2.1 dd_la_law_814 rfl (lv_at hl 1 rfl) ?_
  refine lv_aload_n x.1 x.2.1 dd_la_law_815 rfl (lv_at hl 0 rfl) ?_
  refine lv_iload x.1 x.2.1 dd_la_law_816 (lv_at hl 4 rfl) ?_
  refine lv_iconst (v := nI 1) x.1 x.2.1 dd_la_law_818 (by decide +kernel) ?_
  refine lv_iadd x.1 x.2.1 dd_la_law_819 ?_
  refine mn_top (w := nI (i + 1)) (nI_add _ _) ?_
  refine va_sld x.1 x.2.1 hX hbl hbA hS (vp_in_nI (show i + 1 < L by omega) (by omega)) dd_la_law_820 ?_
  refine mn_top (w := xs (i + 1)) (by rw [nI_clamp (by omega)]) ?_
  refine lv_aload_n x.1 x.2.1 dd_la_law_821 rfl (lv_at hl 0 rfl) ?_
  refine lv_iload x.1 x.2.1 dd_la_law_822 (lv_at hl 4 rfl) ?_
  refine lv_iconst (v := nI 2) x.1 x.2.1 dd_la_law_824 (by decide +kernel) ?_
  refine lv_iadd x.1 x.2.1 dd_la_law_825 ?_
  refine mn_top (w := nI (i + 2)) (nI_add _ _) ?_
  refine va_sld x.1 x.2.1 hX hbl hbA hS (vp_in_nI (show i + 2 < L by omega) (by omega)) dd_la_law_826 ?_
  refine mn_top (w := xs (i + 2)) (by rw [nI_clamp (by omega)]) ?_
  refine lv_aload_n x.1 x.2.1 dd_la_law_827 rfl (lv_at hl 3 rfl) ?_
  obtain ⟨k, r, rb, pl1, V1, M1, f1, n1, hC, hM, h27, hrb, hI1, hkm, hbz⟩ := st_state (l := l) (D := D) (ar := ar) (base := s.heap.size) (ad := ad) (k0 := xs (i + 1)) (k1 := xs (i + 2)) hfl hI
  refine mp_call x (wt_mv _) hG (Nat.le_refl _) hl.1 (mp_invS (av := [.ref (ad 0 0), .int (xs (i + 1)), .int (xs (i + 2)), .ref (ad 15 0)]) x mn_la_state mc_la_state (Or.inl ww_664) ww_665 ww_53 rfl dd_la_law_828) (kk_W_state hL (hC σ hL) hkm) (Nat.le_of_ble_eq_true rfl) (Nat.le_of_ble_eq_true rfl) (by omega) (by omega) hH hS (fun v σa t0 H locs hp97 ht0 hvm hzz hH hS => ?_) (fun _ _ _ _ _ hz _ _ _ _ _ => by cases hz.1)
  obtain ⟨ho, w, hw, hL⟩ := hp97
  cases ho
  refine W.eq (g2 := F0 m 831 ls [.int (nI k)]) rfl ?_
  refine lv_istore (lv' := [(5, .int (nI k)), (0, .ref b), (1, .ref (ad 0 0)), (2, .ref (ad 13 0)), (3, .ref (ad 15 0)), (4, .int (nI i))]) x.1 x.2.1 dd_la_law_831 hl (by decide) rfl (fun ls hl => ?_)
  refine lv_aload_n x.1 x.2.1 dd_la_law_833 rfl (lv_at hl 3 rfl) ?_
  refine lv_aload_n x.1 x.2.1 dd_la_law_834 rfl (lv_at hl 1 rfl) ?_
  refine lv_iload x.1 x.2.1 dd_la_law_835 (lv_at hl 5 rfl) ?_
  refine lv_iconst (v := nI 1) x.1 x.2.1 dd_la_law_837 (by decide +kernel) ?_
  refine lv_iadd x.1 x.2.1 dd_la_law_838 ?_
  refine mn_top (w := nI (i + 1)) (nI_add _ _) ?_
  refine va_sld x.1 x.2.1 hX hbl hbA hS (vp_in_nI (show i + 1 < L by omega) (by omega)) dd_la_law_839 ?_
  refine mn_top (w := xs (i + 1)) (by rw [nI_clamp (by omega)]) ?_
  refine lv_aload_n x.1 x.2.1 dd_la_law_840 rfl (lv_at hl 1 rfl) ?_
  refine lv_iload x.1 x.2.1 dd_la_law_841 (lv_at hl 5 rfl) ?_
  refine lv_iconst (v := nI 2) x.1 x.2.1 dd_la_law_843 (by decide +kernel) ?_
  refine lv_iadd x.1 x.2.1 dd_la_law_844 ?_
  refine mn_top (w := nI (i + 2)) (nI_add _ _) ?_
  refine va_sld x.1 x.2.1 hX hbl hbA hS (vp_in_nI (show i + 2 < L by omega) (by omega)) dd_la_law_845 ?_
  refine mn_top (w := xs (i + 2)) (by rw [nI_clamp (by omega)]) ?_
  refine mp_call x (wt_mv _) hG (Nat.le_refl _) hl.1 (mp_invV (av := [.int (xs (i + 1)), .int (xs (i + 2))]) x hH (la13 hL) rfl rfl mn_md_state mc_md_state (Or.inl ww_909) ww_910 ww_911 rfl dd_la_law_846) (hM _ σa hL) (Nat.le_of_ble_eq_true rfl) (Nat.le_of_ble_eq_true rfl) (by omega) (by omega) hH hS (fun v σa t0 H locs hp98 ht0 hvm hzz hH hS => ?_) (fun _ _ _ _ _ hz _ _ _ _ _ => by cases hz.1)
  obtain ⟨ho, hL⟩ := hp98
  cases ho
  refine W.eq (g2 := F0 m 849 ls [.int rb]) rfl ?_
  refine lv_istore (lv' := [(6, .int rb), (5, .int (nI k)), (0, .ref b), (1, .ref (ad 0 0)), (2, .ref (ad 13 0)), (3, .ref (ad 15 0)), (4, .int (nI i))]) x.1 x.2.1 dd_la_law_849 hl (by decide) rfl (fun ls hl => ?_)
  refine lv_aload_n x.1 x.2.1 dd_la_law_851 rfl (lv_at hl 4 rfl) ?_
  refine mp_call x (wt_mv _) hG (Nat.le_refl _) hl.1 (mp_invV (av := []) x hH (la13 hL) rfl rfl mn_md_thrown mc_md_thrown (Or.inl ww_800) ww_801 ww_802 rfl dd_la_law_852) (kk_M_thrown hL) (Nat.le_of_ble_eq_true rfl) (Nat.le_of_ble_eq_true rfl) (by omega) (by omega) hH hS (fun v σa t0 H locs hp99 ht0 hvm hzz hH hS => ?_) (fun _ _ _ _ _ hz _ _ _ _ _ => by cases hz.1)
  obtain ⟨ho, hL⟩ := hp99
  cases ho
  refine W.eq (g2 := F0 m 855 ls [.int (M1 27 0)]) rfl ?_
  refine mn_top (w := nI k) h27 ?_
  refine lv_iload x.1 x.2.1 dd_la_law_855 (lv_at hl 1 rfl) ?_
  refine lv_icmp_eq (tgt := 862) x.1 x.2.1 dd_la_law_857 (by decide) (fun c100 => ?_) (fun c100 => absurd rfl c100)
  refine lv_iload x.1 x.2.1 dd_la_law_862 (lv_at hl 1 rfl) ?_
  by_cases hk0 : k = 0
  · subst hk0
    obtain rfl := hrb rfl
    refine lv_if_ne (tgt := 879) x.1 x.2.1 dd_la_law_864 (by decide) (fun c101 => absurd (by decide +kernel) c101) (fun c101 => ?_)
    refine lv_aload_n x.1 x.2.1 dd_la_law_867 rfl (lv_at hl 5 rfl) ?_
    refine lv_iconst (v := nI 0) x.1 x.2.1 dd_la_law_868 (by decide +kernel) ?_
    refine ko_ld (v := r) x hH hL (mu_s.trans (hw rfl)) dd_la_law_869 ?_
    refine lv_iload x.1 x.2.1 dd_la_law_870 (lv_at hl 0 rfl) ?_
    refine lv_i2l (v := r.toInt64) x.1 x.2.1 dd_la_law_872 rfl ?_
    refine W.lcmp x.1 x.2.1 dd_la_law_873 ?_
    refine mn_top (w := nI 0) (LCM _) ?_
    refine lv_if_eq (tgt := 879) x.1 x.2.1 dd_la_law_874 (by decide) (fun c102 => ?_) (fun c102 => absurd (by decide +kernel) c102)
    refine lv_goto (tgt := 1139) x.1 x.2.1 dd_la_law_879 (by decide) ?_
    exact go _ _ _ _ _ _ _ _ H locs ls _ _ hL (INV_62 hI1) (by omega) (by omega) (lv_sub hl [2, 3, 4, 5, 6] rfl) hH hS
  · refine lv_if_ne (tgt := 879) x.1 x.2.1 dd_la_law_864 (by decide) (fun c103 => ?_) (fun c103 => absurd c103 (nI_ne0 (by omega) (by omega)))
    refine lv_goto (tgt := 1139) x.1 x.2.1 dd_la_law_879 (by decide) ?_
    exact go _ _ _ _ _ _ _ _ H locs ls _ _ hL (INV_62 hI1) (by omega) (by omega) (lv_sub hl [2, 3, 4, 5, 6] rfl) hH hS
set_option maxRecDepth 100000 in
set_option maxHeartbeats 4000000 in
theorem lt_granted {p : Program} {l : Launch} {e : Env} {s : State} {m : MethodId} {below : List Frame} {meth : Method} {c : Code} {D : va_G} {ar : Nat → ClassId} {b L i cells slots : Nat} {xs : Nat → Int32} {Q : State → Prop} {ad : Nat → Nat → Nat} {rg : Nat → Bool} {pl : Nat → Nat} {V M : fV} {f n : Nat} {σ : mp_M} {H : Heap} {locs : List Loc} {ls : Array Slot} (x : XX D ar p s m #[Value.ref b] c code 7 "SupplyGridLaw") (hG : GG D ar s.heap.size s) (hX : va_X b L xs s s.heap) (hbl : b < s.heap.size) (hfl : l.flags = flags0) (hL : Lay ar ad rg pl V M σ) (hI : INV rg pl V M f n) (hi : i + 5 ≤ L) (hLN : L < 2 ^ 30) (hce : cells + 110 ≤ room_1.cells) (hsl : slots + 800 ≤ room_1.slots) (hl : lv_has ls 7 [(0, .ref b), (1, .ref (ad 0 0)), (2, .ref (ad 13 0)), (3, .ref (ad 15 0)), (4, .int (nI i))]) (hH : HH D s.heap.size σ H) (hS : va_S (mp_A s.heap.size) s.heap H locs) (go : GOON p l e s m below meth c D ar b i cells slots Q) : W p l e room_1 s m #[Value.ref b] below meth c H locs cells slots Q (F0 m 882 ls []) := by
  have hbA : ¬ mp_A s.heap.size b := Nat.not_le.mpr hbl
  refine lv_aload_n x.1 x.2.1 dd_la_law_882 rfl (lv_at hl 1 rfl) ?_
  refine lv_aload_n x.1 x.2.1 dd_la_law_883 rfl (lv_at hl 0 rfl) ?_
  refine lv_iload x.1 x.2.1 dd_la_law_884 (lv_at hl 4 rfl) ?_
  refine lv_iconst (v := nI 1) x.1 x.2.1 dd_la_law_886 (by decide +kernel) ?_
  refine lv_iadd x.1 x.2.1 dd_la_law_887 ?_
  refine mn_top (w := nI (i + 1)) (nI_add _ _) ?_
  refine va_sld x.1 x.2.1 hX hbl hbA hS (vp_in_nI (show i + 1 < L by omega) (by omega)) dd_la_law_888 ?_
  refine mn_top (w := xs (i + 1)) (by rw [nI_clamp (by omega)]) ?_
  refine lv_aload_n x.1 x.2.1 dd_la_law_889 rfl (lv_at hl 0 rfl) ?_
  refine lv_iload x.1 x.2.1 dd_la_law_890 (lv_at hl 4 rfl) ?_
  refine lv_iconst (v := nI 2) x.1 x.2.1 dd_la_law_892 (by decide +kernel) ?_
  refine lv_iadd x.1 x.2.1 dd_la_law_893 ?_
  refine mn_top (w := nI (i + 2)) (nI_add _ _) ?_
  refine va_sld x.1 x.2.1 hX hbl hbA hS (vp_in_nI (show i + 2 < L by omega) (by omega)) dd_la_law_894 ?_
  refine mn_top (w := xs (i + 2)) (by rw [nI_clamp (by omega)]) ?_
  refine lv_aload_n x.1 x.2.1 dd_la_law_895 rfl (lv_at hl 0 rfl) ?_
  refine lv_iload x.1 x.2.1 dd_la_law_896 (lv_at hl 4 rfl) ?_
  refine lv_iconst (v := nI 3) x.1 x.2.1 dd_la_law_898 (by decide +kernel) ?_
  refine lv_iadd x.1 x.2.1 dd_la_law_899 ?_
  refine mn_top (w := nI (i + 3)) (nI_add _ _) ?_
  refine va_sld x.1 x.2.1 hX hbl hbA hS (vp_in_nI (show i + 3 < L by omega) (by omega)) dd_la_law_900 ?_
  refine mn_top (w := xs (i + 3)) (by rw [nI_clamp (by omega)]) ?_
  refine lv_aload_n x.1 x.2.1 dd_la_law_901 rfl (lv_at hl 0 rfl) ?_
  refine lv_iload x.1 x.2.1 dd_la_law_902 (lv_at hl 4 rfl) ?_
  refine lv_iconst (v := nI 4) x.1 x.2.1 dd_la_law_904 (by decide +kernel) ?_
  refine lv_iadd x.1 x.2.1 dd_la_law_905 ?_
  refine mn_top (w := nI (i + 4)) (nI_add _ _) ?_
  refine va_sld x.1 x.2.1 hX hbl hbA hS (vp_in_nI (show i + 4 < L by omega) (by omega)) dd_la_law_906 ?_
  refine mn_top (w := xs (i + 4)) (by rw [nI_clamp (by omega)]) ?_
  refine lv_if_eq (tgt := 914) x.1 x.2.1 dd_la_law_907 (by decide) (fun c104 => ?_) (fun c104 => ?_)
  · refine lv_iconst (v := nI 0) x.1 x.2.1 dd_la_law_914 (by decide +kernel) ?_
    refine lv_aload_n x.1 x.2.1 dd_la_law_915 rfl (lv_at hl 3 rfl) ?_
    obtain ⟨k, r, rb, pl1, V1, M1, f1, n1, hC, hM, h27, hrb, hI1, hkm, hbz⟩ := st_granted (l := l) (D := D) (ar := ar) (base := s.heap.size) (ad := ad) (k0 := xs (i + 1)) (k1 := xs (i + 2)) (k2 := xs (i + 3)) (e0 := 0) (Or.inl rfl) hfl hI
    refine mp_call x (wt_mv _) hG (Nat.le_refl _) hl.1 (mp_invS (av := [.ref (ad 0 0), .int (xs (i + 1)), .int (xs (i + 2)), .int (xs (i + 3)), .int (nI 0), .ref (ad 15 0)]) x mn_la_granted mc_la_granted (Or.inl ww_673) ww_674 ww_53 rfl dd_la_law_916) (kk_W_granted hL (hC σ hL) hkm) (Nat.le_of_ble_eq_true rfl) (Nat.le_of_ble_eq_true rfl) (by omega) (by omega) hH hS (fun v σa t0 H locs hp105 ht0 hvm hzz hH hS => ?_) (fun _ _ _ _ _ hz _ _ _ _ _ => by cases hz.1)
    obtain ⟨ho, w, hw, hL⟩ := hp105
    cases ho
    refine W.eq (g2 := F0 m 919 ls [.int (nI k)]) rfl ?_
    refine lv_istore (lv' := [(5, .int (nI k)), (0, .ref b), (1, .ref (ad 0 0)), (2, .ref (ad 13 0)), (3, .ref (ad 15 0)), (4, .int (nI i))]) x.1 x.2.1 dd_la_law_919 hl (by decide) rfl (fun ls hl => ?_)
    refine lv_aload_n x.1 x.2.1 dd_la_law_921 rfl (lv_at hl 3 rfl) ?_
    refine lv_aload_n x.1 x.2.1 dd_la_law_922 rfl (lv_at hl 1 rfl) ?_
    refine lv_iload x.1 x.2.1 dd_la_law_923 (lv_at hl 5 rfl) ?_
    refine lv_iconst (v := nI 1) x.1 x.2.1 dd_la_law_925 (by decide +kernel) ?_
    refine lv_iadd x.1 x.2.1 dd_la_law_926 ?_
    refine mn_top (w := nI (i + 1)) (nI_add _ _) ?_
    refine va_sld x.1 x.2.1 hX hbl hbA hS (vp_in_nI (show i + 1 < L by omega) (by omega)) dd_la_law_927 ?_
    refine mn_top (w := xs (i + 1)) (by rw [nI_clamp (by omega)]) ?_
    refine lv_aload_n x.1 x.2.1 dd_la_law_928 rfl (lv_at hl 1 rfl) ?_
    refine lv_iload x.1 x.2.1 dd_la_law_929 (lv_at hl 5 rfl) ?_
    refine lv_iconst (v := nI 2) x.1 x.2.1 dd_la_law_931 (by decide +kernel) ?_
    refine lv_iadd x.1 x.2.1 dd_la_law_932 ?_
    refine mn_top (w := nI (i + 2)) (nI_add _ _) ?_
    refine va_sld x.1 x.2.1 hX hbl hbA hS (vp_in_nI (show i + 2 < L by omega) (by omega)) dd_la_law_933 ?_
    refine mn_top (w := xs (i + 2)) (by rw [nI_clamp (by omega)]) ?_
    refine lv_aload_n x.1 x.2.1 dd_la_law_934 rfl (lv_at hl 1 rfl) ?_
    refine lv_iload x.1 x.2.1 dd_la_law_935 (lv_at hl 5 rfl) ?_
    refine lv_iconst (v := nI 3) x.1 x.2.1 dd_la_law_937 (by decide +kernel) ?_
    refine lv_iadd x.1 x.2.1 dd_la_law_938 ?_
    refine mn_top (w := nI (i + 3)) (nI_add _ _) ?_
    refine va_sld x.1 x.2.1 hX hbl hbA hS (vp_in_nI (show i + 3 < L by omega) (by omega)) dd_la_law_939 ?_
    refine mn_top (w := xs (i + 3)) (by rw [nI_clamp (by omega)]) ?_
    refine lv_aload_n x.1 x.2.1 dd_la_law_940 rfl (lv_at hl 1 rfl) ?_
    refine lv_iload x.1 x.2.1 dd_la_law_941 (lv_at hl 5 rfl) ?_
    refine lv_iconst (v := nI 4) x.1 x.2.1 dd_la_law_943 (by decide +kernel) ?_
    refine lv_iadd x.1 x.2.1 dd_la_law_944 ?_
    refine mn_top (w := nI (i + 4)) (nI_add _ _) ?_
    refine va_sld x.1 x.2.1 hX hbl hbA hS (vp_in_nI (show i + 4 < L by omega) (by omega)) dd_la_law_945 ?_
    refine mn_top (w := xs (i + 4)) (by rw [nI_clamp (by omega)]) ?_
    refine lv_if_eq (tgt := 953) x.1 x.2.1 dd_la_law_946 (by decide) (fun c106 => ?_) (fun c106 => absurd c104 c106)
    refine lv_iconst (v := nI 0) x.1 x.2.1 dd_la_law_953 (by decide +kernel) ?_
    refine mp_call x (wt_mv _) hG (Nat.le_refl _) hl.1 (mp_invV (av := [.int (xs (i + 1)), .int (xs (i + 2)), .int (xs (i + 3)), .int (nI 0)]) x hH (la13 hL) rfl rfl mn_md_granted mc_md_granted (Or.inl ww_913) ww_914 ww_915 rfl dd_la_law_954) (hM _ σa hL) (Nat.le_of_ble_eq_true rfl) (Nat.le_of_ble_eq_true rfl) (by omega) (by omega) hH hS (fun v σa t0 H locs hp107 ht0 hvm hzz hH hS => ?_) (fun _ _ _ _ _ hz _ _ _ _ _ => by cases hz.1)
    obtain ⟨ho, hL⟩ := hp107
    cases ho
    refine W.eq (g2 := F0 m 957 ls [.int rb]) rfl ?_
    refine lv_istore (lv' := [(6, .int rb), (5, .int (nI k)), (0, .ref b), (1, .ref (ad 0 0)), (2, .ref (ad 13 0)), (3, .ref (ad 15 0)), (4, .int (nI i))]) x.1 x.2.1 dd_la_law_957 hl (by decide) rfl (fun ls hl => ?_)
    refine lv_aload_n x.1 x.2.1 dd_la_law_959 rfl (lv_at hl 4 rfl) ?_
    refine mp_call x (wt_mv _) hG (Nat.le_refl _) hl.1 (mp_invV (av := []) x hH (la13 hL) rfl rfl mn_md_thrown mc_md_thrown (Or.inl ww_800) ww_801 ww_802 rfl dd_la_law_960) (kk_M_thrown hL) (Nat.le_of_ble_eq_true rfl) (Nat.le_of_ble_eq_true rfl) (by omega) (by omega) hH hS (fun v σa t0 H locs hp108 ht0 hvm hzz hH hS => ?_) (fun _ _ _ _ _ hz _ _ _ _ _ => by cases hz.1)
    obtain ⟨ho, hL⟩ := hp108
    cases ho
    refine W.eq (g2 := F0 m 963 ls [.int (M1 27 0)]) rfl ?_
    refine mn_top (w := nI k) h27 ?_
    refine lv_iload x.1 x.2.1 dd_la_law_963 (lv_at hl 1 rfl) ?_
    refine lv_icmp_eq (tgt := 970) x.1 x.2.1 dd_la_law_965 (by decide) (fun c109 => ?_) (fun c109 => absurd rfl c109)
    refine lv_iload x.1 x.2.1 dd_la_law_970 (lv_at hl 1 rfl) ?_
    by_cases hk0 : k = 0
    · subst hk0
      obtain rfl := hrb rfl
      refine lv_if_ne (tgt := 987) x.1 x.2.1 dd_la_law_972 (by decide) (fun c110 => absurd (by decide +kernel) c110) (fun c110 => ?_)
      refine lv_aload_n x.1 x.2.1 dd_la_law_975 rfl (lv_at hl 5 rfl) ?_
      refine lv_iconst (v := nI 0) x.1 x.2.1 dd_la_law_976 (by decide +kernel) ?_
      refine ko_ld (v := r) x hH hL (mu_s.trans (hw rfl)) dd_la_law_977 ?_
      refine lv_iload x.1 x.2.1 dd_la_law_978 (lv_at hl 0 rfl) ?_
      refine lv_i2l (v := r.toInt64) x.1 x.2.1 dd_la_law_980 rfl ?_
      refine W.lcmp x.1 x.2.1 dd_la_law_981 ?_
      refine mn_top (w := nI 0) (LCM _) ?_
      refine lv_if_eq (tgt := 987) x.1 x.2.1 dd_la_law_982 (by decide) (fun c111 => ?_) (fun c111 => absurd (by decide +kernel) c111)
      refine lv_goto (tgt := 1139) x.1 x.2.1 dd_la_law_987 (by decide) ?_
      exact go _ _ _ _ _ _ _ _ H locs ls _ _ hL (INV_62 hI1) (by omega) (by omega) (lv_sub hl [2, 3, 4, 5, 6] rfl) hH hS
    · refine lv_if_ne (tgt := 987) x.1 x.2.1 dd_la_law_972 (by decide) (fun c112 => ?_) (fun c112 => absurd c112 (nI_ne0 (by omega) (by omega)))
      refine lv_goto (tgt := 1139) x.1 x.2.1 dd_la_law_987 (by decide) ?_
      exact go _ _ _ _ _ _ _ _ H locs ls _ _ hL (INV_62 hI1) (by omega) (by omega) (lv_sub hl [2, 3, 4, 5, 6] rfl) hH hS
  · refine lv_iconst (v := nI 1) x.1 x.2.1 dd_la_law_910 (by decide +kernel) ?_
    refine lv_goto (tgt := 915) x.1 x.2.1 dd_la_law_911 (by decide) ?_
    refine lv_aload_n x.1 x.2.1 dd_la_law_915 rfl (lv_at hl 3 rfl) ?_
    obtain ⟨k, r, rb, pl1, V1, M1, f1, n1, hC, hM, h27, hrb, hI1, hkm, hbz⟩ := st_granted (l := l) (D := D) (ar := ar) (base := s.heap.size) (ad := ad) (k0 := xs (i + 1)) (k1 := xs (i + 2)) (k2 := xs (i + 3)) (e0 := 1) (Or.inr rfl) hfl hI
    refine mp_call x (wt_mv _) hG (Nat.le_refl _) hl.1 (mp_invS (av := [.ref (ad 0 0), .int (xs (i + 1)), .int (xs (i + 2)), .int (xs (i + 3)), .int (nI 1), .ref (ad 15 0)]) x mn_la_granted mc_la_granted (Or.inl ww_673) ww_674 ww_53 rfl dd_la_law_916) (kk_W_granted hL (hC σ hL) hkm) (Nat.le_of_ble_eq_true rfl) (Nat.le_of_ble_eq_true rfl) (by omega) (by omega) hH hS (fun v σa t0 H locs hp113 ht0 hvm hzz hH hS => ?_) (fun _ _ _ _ _ hz _ _ _ _ _ => by cases hz.1)
    obtain ⟨ho, w, hw, hL⟩ := hp113
    cases ho
    refine W.eq (g2 := F0 m 919 ls [.int (nI k)]) rfl ?_
    refine lv_istore (lv' := [(5, .int (nI k)), (0, .ref b), (1, .ref (ad 0 0)), (2, .ref (ad 13 0)), (3, .ref (ad 15 0)), (4, .int (nI i))]) x.1 x.2.1 dd_la_law_919 hl (by decide) rfl (fun ls hl => ?_)
    refine lv_aload_n x.1 x.2.1 dd_la_law_921 rfl (lv_at hl 3 rfl) ?_
    refine lv_aload_n x.1 x.2.1 dd_la_law_922 rfl (lv_at hl 1 rfl) ?_
    refine lv_iload x.1 x.2.1 dd_la_law_923 (lv_at hl 5 rfl) ?_
    refine lv_iconst (v := nI 1) x.1 x.2.1 dd_la_law_925 (by decide +kernel) ?_
    refine lv_iadd x.1 x.2.1 dd_la_law_926 ?_
    refine mn_top (w := nI (i + 1)) (nI_add _ _) ?_
    refine va_sld x.1 x.2.1 hX hbl hbA hS (vp_in_nI (show i + 1 < L by omega) (by omega)) dd_la_law_927 ?_
    refine mn_top (w := xs (i + 1)) (by rw [nI_clamp (by omega)]) ?_
    refine lv_aload_n x.1 x.2.1 dd_la_law_928 rfl (lv_at hl 1 rfl) ?_
    refine lv_iload x.1 x.2.1 dd_la_law_929 (lv_at hl 5 rfl) ?_
    refine lv_iconst (v := nI 2) x.1 x.2.1 dd_la_law_931 (by decide +kernel) ?_
    refine lv_iadd x.1 x.2.1 dd_la_law_932 ?_
    refine mn_top (w := nI (i + 2)) (nI_add _ _) ?_
    refine va_sld x.1 x.2.1 hX hbl hbA hS (vp_in_nI (show i + 2 < L by omega) (by omega)) dd_la_law_933 ?_
    refine mn_top (w := xs (i + 2)) (by rw [nI_clamp (by omega)]) ?_
    refine lv_aload_n x.1 x.2.1 dd_la_law_934 rfl (lv_at hl 1 rfl) ?_
    refine lv_iload x.1 x.2.1 dd_la_law_935 (lv_at hl 5 rfl) ?_
    refine lv_iconst (v := nI 3) x.1 x.2.1 dd_la_law_937 (by decide +kernel) ?_
    refine lv_iadd x.1 x.2.1 dd_la_law_938 ?_
    refine mn_top (w := nI (i + 3)) (nI_add _ _) ?_
    refine va_sld x.1 x.2.1 hX hbl hbA hS (vp_in_nI (show i + 3 < L by omega) (by omega)) dd_la_law_939 ?_
    refine mn_top (w := xs (i + 3)) (by rw [nI_clamp (by omega)]) ?_
    refine lv_aload_n x.1 x.2.1 dd_la_law_940 rfl (lv_at hl 1 rfl) ?_
    refine lv_iload x.1 x.2.1 dd_la_law_941 (lv_at hl 5 rfl) ?_
    refine lv_iconst (v := nI 4) x.1 x.2.1 dd_la_law_943 (by decide +kernel) ?_
    refine lv_iadd x.1 x.2.1 dd_la_law_944 ?_
    refine mn_top (w := nI (i + 4)) (nI_add _ _) ?_
    refine va_sld x.1 x.2.1 hX hbl hbA hS (vp_in_nI (show i + 4 < L by omega) (by omega)) dd_la_law_945 ?_
    refine mn_top (w := xs (i + 4)) (by rw [nI_clamp (by omega)]) ?_
    refine lv_if_eq (tgt := 953) x.1 x.2.1 dd_la_law_946 (by decide) (fun c114 => absurd c114 c104) (fun c114 => ?_)
    refine lv_iconst (v := nI 1) x.1 x.2.1 dd_la_law_949 (by decide +kernel) ?_
    refine lv_goto (tgt := 954) x.1 x.2.1 dd_la_law_950 (by decide) ?_
    refine mp_call x (wt_mv _) hG (Nat.le_refl _) hl.1 (mp_invV (av := [.int (xs (i + 1)), .int (xs (i + 2)), .int (xs (i + 3)), .int (nI 1)]) x hH (la13 hL) rfl rfl mn_md_granted mc_md_granted (Or.inl ww_913) ww_914 ww_915 rfl dd_la_law_954) (hM _ σa hL) (Nat.le_of_ble_eq_true rfl) (Nat.le_of_ble_eq_true rfl) (by omega) (by omega) hH hS (fun v σa t0 H locs hp115 ht0 hvm hzz hH hS => ?_) (fun _ _ _ _ _ hz _ _ _ _ _ => by cases hz.1)
    obtain ⟨ho, hL⟩ := hp115
    cases ho
    refine W.eq (g2 := F0 m 957 ls [.int rb]) rfl ?_
    refine lv_istore (lv' := [(6, .int rb), (5, .int (nI k)), (0, .ref b), (1, .ref (ad 0 0)), (2, .ref (ad 13 0)), (3, .ref (ad 15 0)), (4, .int (nI i))]) x.1 x.2.1 dd_la_law_957 hl (by decide) rfl (fun ls hl => ?_)
    refine lv_aload_n x.1 x.2.1 dd_la_law_959 rfl (lv_at hl 4 rfl) ?_
    refine mp_call x (wt_mv _) hG (Nat.le_refl _) hl.1 (mp_invV (av := []) x hH (la13 hL) rfl rfl mn_md_thrown mc_md_thrown (Or.inl ww_800) ww_801 ww_802 rfl dd_la_law_960) (kk_M_thrown hL) (Nat.le_of_ble_eq_true rfl) (Nat.le_of_ble_eq_true rfl) (by omega) (by omega) hH hS (fun v σa t0 H locs hp116 ht0 hvm hzz hH hS => ?_) (fun _ _ _ _ _ hz _ _ _ _ _ => by cases hz.1)
    obtain ⟨ho, hL⟩ := hp116
    cases ho
    refine W.eq (g2 := F0 m 963 ls [.int (M1 27 0)]) rfl ?_
    refine mn_top (w := nI k) h27 ?_
    refine lv_iload x.1 x.2.1 dd_la_law_963 (lv_at hl 1 rfl) ?_
    refine lv_icmp_eq (tgt := 970) x.1 x.2.1 dd_la_law_965 (by decide) (fun c117 => ?_) (fun c117 => absurd rfl c117)
    refine lv_iload x.1 x.2.1 dd_la_law_970 (lv_at hl 1 rfl) ?_
    by_cases hk0 : k = 0
    · subst hk0
      obtain rfl := hrb rfl
      refine lv_if_ne (tgt := 987) x.1 x.2.1 dd_la_law_972 (by decide) (fun c118 => absurd (by decide +kernel) c118) (fun c118 => ?_)
      refine lv_aload_n x.1 x.2.1 dd_la_law_975 rfl (lv_at hl 5 rfl) ?_
      refine lv_iconst (v := nI 0) x.1 x.2.1 dd_la_law_976 (by decide +kernel) ?_
      refine ko_ld (v := r) x hH hL (mu_s.trans (hw rfl)) dd_la_law_977 ?_
      refine lv_iload x.1 x.2.1 dd_la_law_978 (lv_at hl 0 rfl) ?_
      refine lv_i2l (v := r.toInt64) x.1 x.2.1 dd_la_law_980 rfl ?_
      refine W.lcmp x.1 x.2.1 dd_la_law_981 ?_
      refine mn_top (w := nI 0) (LCM _) ?_
      refine lv_if_eq (tgt := 987) x.1 x.2.1 dd_la_law_982 (by decide) (fun c119 => ?_) (fun c119 => absurd (by decide +kernel) c119)
      refine lv_goto (tgt := 1139) x.1 x.2.1 dd_la_law_987 (by decide) ?_
      exact go _ _ _ _ _ _ _ _ H locs ls _ _ hL (INV_62 hI1) (by omega) (by omega) (lv_sub hl [2, 3, 4, 5, 6] rfl) hH hS
    · refine lv_if_ne (tgt := 987) x.1 x.2.1 dd_la_law_972 (by decide) (fun c120 => ?_) (fun c120 => absurd c120 (nI_ne0 (by omega) (by omega)))
      refine lv_goto (tgt := 1139) x.1 x.2.1 dd_la_law_987 (by decide) ?_
      exact go _ _ _ _ _ _ _ _ H locs ls _ _ hL (INV_62 hI1) (by omega) (by omega) (lv_sub hl [2, 3, 4, 5, 6] rfl) hH hS
set_option maxRecDepth 100000 in
set_option maxHeartbeats 4000000 in
theorem lt_kept {p : Program} {l : Launch} {e : Env} {s : State} {m : MethodId} {below : List Frame} {meth : Method} {c : Code} {D : va_G} {ar : Nat → ClassId} {b L i cells slots : Nat} {xs : Nat → Int32} {Q : State → Prop} {ad : Nat → Nat → Nat} {rg : Nat → Bool} {pl : Nat → Nat} {V M : fV} {f n : Nat} {σ : mp_M} {H : Heap} {locs : List Loc} {ls : Array Slot} (x : XX D ar p s m #[Value.ref b] c code 7 "SupplyGridLaw") (hG : GG D ar s.heap.size s) (hX : va_X b L xs s s.heap) (hbl : b < s.heap.size) (hfl : l.flags = flags0) (hL : Lay ar ad rg pl V M σ) (hI : INV rg pl V M f n) (hi : i + 5 ≤ L) (hLN : L < 2 ^ 30) (hce : cells + 110 ≤ room_1.cells) (hsl : slots + 800 ≤ room_1.slots) (hl : lv_has ls 7 [(0, .ref b), (1, .ref (ad 0 0)), (2, .ref (ad 13 0)), (3, .ref (ad 15 0)), (4, .int (nI i))]) (hH : HH D s.heap.size σ H) (hS : va_S (mp_A s.heap.size) s.heap H locs) (go : GOON p l e s m below meth c D ar b i cells slots Q) : W p l e room_1 s m #[Value.ref b] below meth c H locs cells slots Q (F0 m 990 ls []) := by
  have hbA : ¬ mp_A s.heap.size b := Nat.not_le.mpr hbl
  refine lv_aload_n x.1 x.2.1 dd_la_law_990 rfl (lv_at hl 1 rfl) ?_
  refine lv_aload_n x.1 x.2.1 dd_la_law_991 rfl (lv_at hl 0 rfl) ?_
  refine lv_iload x.1 x.2.1 dd_la_law_992 (lv_at hl 4 rfl) ?_
  refine lv_iconst (v := nI 1) x.1 x.2.1 dd_la_law_994 (by decide +kernel) ?_
  refine lv_iadd x.1 x.2.1 dd_la_law_995 ?_
  refine mn_top (w := nI (i + 1)) (nI_add _ _) ?_
  refine va_sld x.1 x.2.1 hX hbl hbA hS (vp_in_nI (show i + 1 < L by omega) (by omega)) dd_la_law_996 ?_
  refine mn_top (w := xs (i + 1)) (by rw [nI_clamp (by omega)]) ?_
  refine lv_aload_n x.1 x.2.1 dd_la_law_997 rfl (lv_at hl 0 rfl) ?_
  refine lv_iload x.1 x.2.1 dd_la_law_998 (lv_at hl 4 rfl) ?_
  refine lv_iconst (v := nI 2) x.1 x.2.1 dd_la_law_1000 (by decide +kernel) ?_
  refine lv_iadd x.1 x.2.1 dd_la_law_1001 ?_
  refine mn_top (w := nI (i + 2)) (nI_add _ _) ?_
  refine va_sld x.1 x.2.1 hX hbl hbA hS (vp_in_nI (show i + 2 < L by omega) (by omega)) dd_la_law_1002 ?_
  refine mn_top (w := xs (i + 2)) (by rw [nI_clamp (by omega)]) ?_
  refine lv_aload_n x.1 x.2.1 dd_la_law_1003 rfl (lv_at hl 0 rfl) ?_
  refine lv_iload x.1 x.2.1 dd_la_law_1004 (lv_at hl 4 rfl) ?_
  refine lv_iconst (v := nI 3) x.1 x.2.1 dd_la_law_1006 (by decide +kernel) ?_
  refine lv_iadd x.1 x.2.1 dd_la_law_1007 ?_
  refine mn_top (w := nI (i + 3)) (nI_add _ _) ?_
  refine va_sld x.1 x.2.1 hX hbl hbA hS (vp_in_nI (show i + 3 < L by omega) (by omega)) dd_la_law_1008 ?_
  refine mn_top (w := xs (i + 3)) (by rw [nI_clamp (by omega)]) ?_
  refine lv_aload_n x.1 x.2.1 dd_la_law_1009 rfl (lv_at hl 3 rfl) ?_
  obtain ⟨k, r, rb, pl1, V1, M1, f1, n1, hC, hM, h27, hrb, hI1, hkm, hbz⟩ := st_kept (l := l) (D := D) (ar := ar) (base := s.heap.size) (ad := ad) (k0 := xs (i + 1)) (k1 := xs (i + 2)) (k2 := xs (i + 3)) hfl hI
  refine mp_call x (wt_mv _) hG (Nat.le_refl _) hl.1 (mp_invS (av := [.ref (ad 0 0), .int (xs (i + 1)), .int (xs (i + 2)), .int (xs (i + 3)), .ref (ad 15 0)]) x mn_la_kept mc_la_kept (Or.inl ww_682) ww_683 ww_53 rfl dd_la_law_1010) (kk_W_kept hL (hC σ hL) hkm) (Nat.le_of_ble_eq_true rfl) (Nat.le_of_ble_eq_true rfl) (by omega) (by omega) hH hS (fun v σa t0 H locs hp121 ht0 hvm hzz hH hS => ?_) (fun _ _ _ _ _ hz _ _ _ _ _ => by cases hz.1)
  obtain ⟨ho, w, hw, hL⟩ := hp121
  cases ho
  refine W.eq (g2 := F0 m 1013 ls [.int (nI k)]) rfl ?_
  refine lv_istore (lv' := [(5, .int (nI k)), (0, .ref b), (1, .ref (ad 0 0)), (2, .ref (ad 13 0)), (3, .ref (ad 15 0)), (4, .int (nI i))]) x.1 x.2.1 dd_la_law_1013 hl (by decide) rfl (fun ls hl => ?_)
  refine lv_aload_n x.1 x.2.1 dd_la_law_1015 rfl (lv_at hl 3 rfl) ?_
  refine lv_aload_n x.1 x.2.1 dd_la_law_1016 rfl (lv_at hl 1 rfl) ?_
  refine lv_iload x.1 x.2.1 dd_la_law_1017 (lv_at hl 5 rfl) ?_
  refine lv_iconst (v := nI 1) x.1 x.2.1 dd_la_law_1019 (by decide +kernel) ?_
  refine lv_iadd x.1 x.2.1 dd_la_law_1020 ?_
  refine mn_top (w := nI (i + 1)) (nI_add _ _) ?_
  refine va_sld x.1 x.2.1 hX hbl hbA hS (vp_in_nI (show i + 1 < L by omega) (by omega)) dd_la_law_1021 ?_
  refine mn_top (w := xs (i + 1)) (by rw [nI_clamp (by omega)]) ?_
  refine lv_aload_n x.1 x.2.1 dd_la_law_1022 rfl (lv_at hl 1 rfl) ?_
  refine lv_iload x.1 x.2.1 dd_la_law_1023 (lv_at hl 5 rfl) ?_
  refine lv_iconst (v := nI 2) x.1 x.2.1 dd_la_law_1025 (by decide +kernel) ?_
  refine lv_iadd x.1 x.2.1 dd_la_law_1026 ?_
  refine mn_top (w := nI (i + 2)) (nI_add _ _) ?_
  refine va_sld x.1 x.2.1 hX hbl hbA hS (vp_in_nI (show i + 2 < L by omega) (by omega)) dd_la_law_1027 ?_
  refine mn_top (w := xs (i + 2)) (by rw [nI_clamp (by omega)]) ?_
  refine lv_aload_n x.1 x.2.1 dd_la_law_1028 rfl (lv_at hl 1 rfl) ?_
  refine lv_iload x.1 x.2.1 dd_la_law_1029 (lv_at hl 5 rfl) ?_
  refine lv_iconst (v := nI 3) x.1 x.2.1 dd_la_law_1031 (by decide +kernel) ?_
  refine lv_iadd x.1 x.2.1 dd_la_law_1032 ?_
  refine mn_top (w := nI (i + 3)) (nI_add _ _) ?_
  refine va_sld x.1 x.2.1 hX hbl hbA hS (vp_in_nI (show i + 3 < L by omega) (by omega)) dd_la_law_1033 ?_
  refine mn_top (w := xs (i + 3)) (by rw [nI_clamp (by omega)]) ?_
  refine mp_call x (wt_mv _) hG (Nat.le_refl _) hl.1 (mp_invV (av := [.int (xs (i + 1)), .int (xs (i + 2)), .int (xs (i + 3))]) x hH (la13 hL) rfl rfl mn_md_kept mc_md_kept (Or.inl ww_917) ww_918 ww_919 rfl dd_la_law_1034) (hM _ σa hL) (Nat.le_of_ble_eq_true rfl) (Nat.le_of_ble_eq_true rfl) (by omega) (by omega) hH hS (fun v σa t0 H locs hp122 ht0 hvm hzz hH hS => ?_) (fun _ _ _ _ _ hz _ _ _ _ _ => by cases hz.1)
  obtain ⟨ho, hL⟩ := hp122
  cases ho
  refine W.eq (g2 := F0 m 1037 ls [.int rb]) rfl ?_
  refine lv_istore (lv' := [(6, .int rb), (5, .int (nI k)), (0, .ref b), (1, .ref (ad 0 0)), (2, .ref (ad 13 0)), (3, .ref (ad 15 0)), (4, .int (nI i))]) x.1 x.2.1 dd_la_law_1037 hl (by decide) rfl (fun ls hl => ?_)
  refine lv_aload_n x.1 x.2.1 dd_la_law_1039 rfl (lv_at hl 4 rfl) ?_
  refine mp_call x (wt_mv _) hG (Nat.le_refl _) hl.1 (mp_invV (av := []) x hH (la13 hL) rfl rfl mn_md_thrown mc_md_thrown (Or.inl ww_800) ww_801 ww_802 rfl dd_la_law_1040) (kk_M_thrown hL) (Nat.le_of_ble_eq_true rfl) (Nat.le_of_ble_eq_true rfl) (by omega) (by omega) hH hS (fun v σa t0 H locs hp123 ht0 hvm hzz hH hS => ?_) (fun _ _ _ _ _ hz _ _ _ _ _ => by cases hz.1)
  obtain ⟨ho, hL⟩ := hp123
  cases ho
  refine W.eq (g2 := F0 m 1043 ls [.int (M1 27 0)]) rfl ?_
  refine mn_top (w := nI k) h27 ?_
  refine lv_iload x.1 x.2.1 dd_la_law_1043 (lv_at hl 1 rfl) ?_
  refine lv_icmp_eq (tgt := 1050) x.1 x.2.1 dd_la_law_1045 (by decide) (fun c124 => ?_) (fun c124 => absurd rfl c124)
  refine lv_iload x.1 x.2.1 dd_la_law_1050 (lv_at hl 1 rfl) ?_
  by_cases hk0 : k = 0
  · subst hk0
    obtain rfl := hrb rfl
    refine lv_if_ne (tgt := 1067) x.1 x.2.1 dd_la_law_1052 (by decide) (fun c125 => absurd (by decide +kernel) c125) (fun c125 => ?_)
    refine lv_aload_n x.1 x.2.1 dd_la_law_1055 rfl (lv_at hl 5 rfl) ?_
    refine lv_iconst (v := nI 0) x.1 x.2.1 dd_la_law_1056 (by decide +kernel) ?_
    refine ko_ld (v := r) x hH hL (mu_s.trans (hw rfl)) dd_la_law_1057 ?_
    refine lv_iload x.1 x.2.1 dd_la_law_1058 (lv_at hl 0 rfl) ?_
    refine lv_i2l (v := r.toInt64) x.1 x.2.1 dd_la_law_1060 rfl ?_
    refine W.lcmp x.1 x.2.1 dd_la_law_1061 ?_
    refine mn_top (w := nI 0) (LCM _) ?_
    refine lv_if_eq (tgt := 1067) x.1 x.2.1 dd_la_law_1062 (by decide) (fun c126 => ?_) (fun c126 => absurd (by decide +kernel) c126)
    refine lv_goto (tgt := 1139) x.1 x.2.1 dd_la_law_1067 (by decide) ?_
    exact go _ _ _ _ _ _ _ _ H locs ls _ _ hL (INV_62 hI1) (by omega) (by omega) (lv_sub hl [2, 3, 4, 5, 6] rfl) hH hS
  · refine lv_if_ne (tgt := 1067) x.1 x.2.1 dd_la_law_1052 (by decide) (fun c127 => ?_) (fun c127 => absurd c127 (nI_ne0 (by omega) (by omega)))
    refine lv_goto (tgt := 1139) x.1 x.2.1 dd_la_law_1067 (by decide) ?_
    exact go _ _ _ _ _ _ _ _ H locs ls _ _ hL (INV_62 hI1) (by omega) (by omega) (lv_sub hl [2, 3, 4, 5, 6] rfl) hH hS
set_option maxRecDepth 100000 in
set_option maxHeartbeats 4000000 in
theorem lt_live {p : Program} {l : Launch} {e : Env} {s : State} {m : MethodId} {below : List Frame} {meth : Method} {c : Code} {D : va_G} {ar : Nat → ClassId} {b L i cells slots : Nat} {xs : Nat → Int32} {Q : State → Prop} {ad : Nat → Nat → Nat} {rg : Nat → Bool} {pl : Nat → Nat} {V M : fV} {f n : Nat} {σ : mp_M} {H : Heap} {locs : List Loc} {ls : Array Slot} (x : XX D ar p s m #[Value.ref b] c code 7 "SupplyGridLaw") (hG : GG D ar s.heap.size s) (hX : va_X b L xs s s.heap) (hbl : b < s.heap.size) (hfl : l.flags = flags0) (hL : Lay ar ad rg pl V M σ) (hI : INV rg pl V M f n) (hi : i + 5 ≤ L) (hLN : L < 2 ^ 30) (hce : cells + 110 ≤ room_1.cells) (hsl : slots + 800 ≤ room_1.slots) (hl : lv_has ls 7 [(0, .ref b), (1, .ref (ad 0 0)), (2, .ref (ad 13 0)), (3, .ref (ad 15 0)), (4, .int (nI i))]) (hH : HH D s.heap.size σ H) (hS : va_S (mp_A s.heap.size) s.heap H locs) (go : GOON p l e s m below meth c D ar b i cells slots Q) : W p l e room_1 s m #[Value.ref b] below meth c H locs cells slots Q (F0 m 1070 ls []) := by
  have hbA : ¬ mp_A s.heap.size b := Nat.not_le.mpr hbl
  refine lv_aload_n x.1 x.2.1 dd_la_law_1070 rfl (lv_at hl 1 rfl) ?_
  refine mp_call x (wt_mv _) hG (Nat.le_refl _) hl.1 (mp_invV (av := []) x hH (la0 hL) rfl rfl mn_sg_live mc_sg_live (Or.inl ww_289) ww_290 ww_291 rfl dd_la_law_1071) (kk_X_live hL) (Nat.le_of_ble_eq_true rfl) (Nat.le_of_ble_eq_true rfl) (by omega) (by omega) hH hS (fun v σa t0 H locs hp128 ht0 hvm hzz hH hS => ?_) (fun _ _ _ _ _ hz _ _ _ _ _ => by cases hz.1)
  obtain ⟨ho, hL⟩ := hp128
  cases ho
  refine W.eq (g2 := F0 m 1074 ls [.int (slv (V 59 0))]) rfl ?_
  refine lv_aload_n x.1 x.2.1 dd_la_law_1074 rfl (lv_at hl 2 rfl) ?_
  refine mp_call x (wt_mv _) hG (Nat.le_refl _) hl.1 (mp_invV (av := []) x hH (la13 hL) rfl rfl mn_md_live mc_md_live (Or.inl ww_921) ww_922 ww_923 rfl dd_la_law_1075) (kk_MX_live hL) (Nat.le_of_ble_eq_true rfl) (Nat.le_of_ble_eq_true rfl) (by omega) (by omega) hH hS (fun v σa t0 H locs hp129 ht0 hvm hzz hH hS => ?_) (fun _ _ _ _ _ hz _ _ _ _ _ => by cases hz.1)
  obtain ⟨ho, hL⟩ := hp129
  cases ho
  refine W.eq (g2 := F0 m 1078 ls [.int (mlv (lbs M 25)), .int (slv (V 59 0))]) rfl ?_
  refine lv_icmp_eq (tgt := 1139) x.1 x.2.1 dd_la_law_1078 (by decide) (fun c130 => ?_) (fun c130 => absurd (EQ_live hI) c130)
  exact go _ _ _ _ _ _ _ _ H locs ls _ _ hL (INV_27 hI) (by omega) (by omega) (lv_sub hl [0, 1, 2, 3, 4] rfl) hH hS
set_option maxRecDepth 100000 in
set_option maxHeartbeats 4000000 in
theorem lt_total {p : Program} {l : Launch} {e : Env} {s : State} {m : MethodId} {below : List Frame} {meth : Method} {c : Code} {D : va_G} {ar : Nat → ClassId} {b L i cells slots : Nat} {xs : Nat → Int32} {Q : State → Prop} {ad : Nat → Nat → Nat} {rg : Nat → Bool} {pl : Nat → Nat} {V M : fV} {f n : Nat} {σ : mp_M} {H : Heap} {locs : List Loc} {ls : Array Slot} (x : XX D ar p s m #[Value.ref b] c code 7 "SupplyGridLaw") (hG : GG D ar s.heap.size s) (hX : va_X b L xs s s.heap) (hbl : b < s.heap.size) (hfl : l.flags = flags0) (hL : Lay ar ad rg pl V M σ) (hI : INV rg pl V M f n) (hi : i + 5 ≤ L) (hLN : L < 2 ^ 30) (hce : cells + 110 ≤ room_1.cells) (hsl : slots + 800 ≤ room_1.slots) (hl : lv_has ls 7 [(0, .ref b), (1, .ref (ad 0 0)), (2, .ref (ad 13 0)), (3, .ref (ad 15 0)), (4, .int (nI i))]) (hH : HH D s.heap.size σ H) (hS : va_S (mp_A s.heap.size) s.heap H locs) (go : GOON p l e s m below meth c D ar b i cells slots Q) : W p l e room_1 s m #[Value.ref b] below meth c H locs cells slots Q (F0 m 1083 ls []) := by
  have hbA : ¬ mp_A s.heap.size b := Nat.not_le.mpr hbl
  refine lv_aload_n x.1 x.2.1 dd_la_law_1083 rfl (lv_at hl 1 rfl) ?_
  refine lv_aload_n x.1 x.2.1 dd_la_law_1084 rfl (lv_at hl 0 rfl) ?_
  refine lv_iload x.1 x.2.1 dd_la_law_1085 (lv_at hl 4 rfl) ?_
  refine lv_iconst (v := nI 1) x.1 x.2.1 dd_la_law_1087 (by decide +kernel) ?_
  refine lv_iadd x.1 x.2.1 dd_la_law_1088 ?_
  refine mn_top (w := nI (i + 1)) (nI_add _ _) ?_
  refine va_sld x.1 x.2.1 hX hbl hbA hS (vp_in_nI (show i + 1 < L by omega) (by omega)) dd_la_law_1089 ?_
  refine mn_top (w := xs (i + 1)) (by rw [nI_clamp (by omega)]) ?_
  refine lv_aload_n x.1 x.2.1 dd_la_law_1090 rfl (lv_at hl 3 rfl) ?_
  obtain ⟨k, r, rb, pl1, V1, M1, f1, n1, hC, hM, h27, hrb, hI1, hkm, hbz⟩ := st_total (l := l) (D := D) (ar := ar) (base := s.heap.size) (ad := ad) (k0 := xs (i + 1)) hfl hI
  refine mp_call x (wt_mv _) hG (Nat.le_refl _) hl.1 (mp_invS (av := [.ref (ad 0 0), .int (xs (i + 1)), .ref (ad 15 0)]) x mn_la_total mc_la_total (Or.inl ww_701) ww_702 ww_53 rfl dd_la_law_1091) (kk_W_total hL (hC σ hL) hkm) (Nat.le_of_ble_eq_true rfl) (Nat.le_of_ble_eq_true rfl) (by omega) (by omega) hH hS (fun v σa t0 H locs hp131 ht0 hvm hzz hH hS => ?_) (fun _ _ _ _ _ hz _ _ _ _ _ => by cases hz.1)
  obtain ⟨ho, w, hw, hL⟩ := hp131
  cases ho
  refine W.eq (g2 := F0 m 1094 ls [.int (nI k)]) rfl ?_
  refine lv_istore (lv' := [(5, .int (nI k)), (0, .ref b), (1, .ref (ad 0 0)), (2, .ref (ad 13 0)), (3, .ref (ad 15 0)), (4, .int (nI i))]) x.1 x.2.1 dd_la_law_1094 hl (by decide) rfl (fun ls hl => ?_)
  refine lv_aload_n x.1 x.2.1 dd_la_law_1096 rfl (lv_at hl 3 rfl) ?_
  refine lv_aload_n x.1 x.2.1 dd_la_law_1097 rfl (lv_at hl 1 rfl) ?_
  refine lv_iload x.1 x.2.1 dd_la_law_1098 (lv_at hl 5 rfl) ?_
  refine lv_iconst (v := nI 1) x.1 x.2.1 dd_la_law_1100 (by decide +kernel) ?_
  refine lv_iadd x.1 x.2.1 dd_la_law_1101 ?_
  refine mn_top (w := nI (i + 1)) (nI_add _ _) ?_
  refine va_sld x.1 x.2.1 hX hbl hbA hS (vp_in_nI (show i + 1 < L by omega) (by omega)) dd_la_law_1102 ?_
  refine mn_top (w := xs (i + 1)) (by rw [nI_clamp (by omega)]) ?_
  refine mp_call x (wt_mv _) hG (Nat.le_refl _) hl.1 (mp_invV (av := [.int (xs (i + 1))]) x hH (la13 hL) rfl rfl mn_md_total mc_md_total (Or.inl ww_925) ww_926 ww_927 rfl dd_la_law_1103) (hM _ σa hL) (Nat.le_of_ble_eq_true rfl) (Nat.le_of_ble_eq_true rfl) (by omega) (by omega) hH hS (fun v σa t0 H locs hp132 ht0 hvm hzz hH hS => ?_) (fun _ _ _ _ _ hz _ _ _ _ _ => by cases hz.1)
  obtain ⟨ho, hL⟩ := hp132
  cases ho
  refine W.eq (g2 := F0 m 1106 ls [.int rb]) rfl ?_
  refine lv_istore (lv' := [(6, .int rb), (5, .int (nI k)), (0, .ref b), (1, .ref (ad 0 0)), (2, .ref (ad 13 0)), (3, .ref (ad 15 0)), (4, .int (nI i))]) x.1 x.2.1 dd_la_law_1106 hl (by decide) rfl (fun ls hl => ?_)
  refine lv_aload_n x.1 x.2.1 dd_la_law_1108 rfl (lv_at hl 4 rfl) ?_
  refine mp_call x (wt_mv _) hG (Nat.le_refl _) hl.1 (mp_invV (av := []) x hH (la13 hL) rfl rfl mn_md_thrown mc_md_thrown (Or.inl ww_800) ww_801 ww_802 rfl dd_la_law_1109) (kk_M_thrown hL) (Nat.le_of_ble_eq_true rfl) (Nat.le_of_ble_eq_true rfl) (by omega) (by omega) hH hS (fun v σa t0 H locs hp133 ht0 hvm hzz hH hS => ?_) (fun _ _ _ _ _ hz _ _ _ _ _ => by cases hz.1)
  obtain ⟨ho, hL⟩ := hp133
  cases ho
  refine W.eq (g2 := F0 m 1112 ls [.int (M1 27 0)]) rfl ?_
  refine mn_top (w := nI k) h27 ?_
  refine lv_iload x.1 x.2.1 dd_la_law_1112 (lv_at hl 1 rfl) ?_
  refine lv_icmp_eq (tgt := 1119) x.1 x.2.1 dd_la_law_1114 (by decide) (fun c134 => ?_) (fun c134 => absurd rfl c134)
  refine lv_iload x.1 x.2.1 dd_la_law_1119 (lv_at hl 1 rfl) ?_
  by_cases hk0 : k = 0
  · subst hk0
    obtain rfl := hrb rfl
    refine lv_if_ne (tgt := 1136) x.1 x.2.1 dd_la_law_1121 (by decide) (fun c135 => absurd (by decide +kernel) c135) (fun c135 => ?_)
    refine lv_aload_n x.1 x.2.1 dd_la_law_1124 rfl (lv_at hl 5 rfl) ?_
    refine lv_iconst (v := nI 0) x.1 x.2.1 dd_la_law_1125 (by decide +kernel) ?_
    refine ko_ld (v := r) x hH hL (mu_s.trans (hw rfl)) dd_la_law_1126 ?_
    refine lv_iload x.1 x.2.1 dd_la_law_1127 (lv_at hl 0 rfl) ?_
    refine lv_i2l (v := r.toInt64) x.1 x.2.1 dd_la_law_1129 rfl ?_
    refine W.lcmp x.1 x.2.1 dd_la_law_1130 ?_
    refine mn_top (w := nI 0) (LCM _) ?_
    refine lv_if_eq (tgt := 1136) x.1 x.2.1 dd_la_law_1131 (by decide) (fun c136 => ?_) (fun c136 => absurd (by decide +kernel) c136)
    refine lv_goto (tgt := 1139) x.1 x.2.1 dd_la_law_1136 (by decide) ?_
    exact go _ _ _ _ _ _ _ _ H locs ls _ _ hL (INV_62 hI1) (by omega) (by omega) (lv_sub hl [2, 3, 4, 5, 6] rfl) hH hS
  · refine lv_if_ne (tgt := 1136) x.1 x.2.1 dd_la_law_1121 (by decide) (fun c137 => ?_) (fun c137 => absurd c137 (nI_ne0 (by omega) (by omega)))
    refine lv_goto (tgt := 1139) x.1 x.2.1 dd_la_law_1136 (by decide) ?_
    exact go _ _ _ _ _ _ _ _ H locs ls _ _ hL (INV_62 hI1) (by omega) (by omega) (lv_sub hl [2, 3, 4, 5, 6] rfl) hH hS
