/-! ONE CALL of class and model: alike in what they answer and throw. -/
def CO (k : Nat) (r : Int32) (o : Outcome) (t : State) : Prop := (k = 0 ∧ o = .returned (some (.int r))) ∨ (k = 1 ∧ ∃ a, o = .threw a ∧ mp_T mp_iae a t) ∨ (k = 2 ∧ ∃ a, o = .threw a ∧ mp_T mp_ise a t)
def STEP (l : Launch) (D : va_G) (ar : Nat → ClassId) (base : Nat) (ad : Nat → Nat → Nat) (yc : MethodName) (cb : ByteArray) (cl : Nat) (crt : Option FieldType) (ym : MethodName) (mb : ByteArray) (ml : Nat) (mrt : Option FieldType) (xs : List Value) (km : Nat) (rg : Nat → Bool) (pl : Nat → Nat) (V M : fV) : Prop :=
  ∃ (k : Nat) (r b : Int32) (pl' : Nat → Nat) (V' M' : fV) (f' n' : Nat),
    (∀ σ, Lay ar ad rg pl V M σ → CN l D ar base yc cb cl crt [] 7 96 6 36 (.ref (ad 0 0) :: xs) σ (fun o σ' t => CO k r o t ∧ Lay ar ad rg pl' V' M σ')) ∧
    (∀ (W : fV) σ, Lay ar ad rg pl' W M σ → CN l D ar base ym mb ml mrt [] 5 90 0 0 (.ref (ad 13 0) :: xs) σ (fun o σ' _ => o = .returned (some (.int b)) ∧ Lay ar ad rg pl' W M' σ')) ∧
    M' 27 0 = nI k ∧ (k = 0 → r = b) ∧ INV rg pl' V' M' f' n' ∧ k ≤ km ∧ (crt = Option.some Jvm.ClassFile.FieldType.boolean → r = nI 0 ∨ r = nI 1)
section STS
variable {l : Launch} {D : va_G} {ar : Nat → ClassId} {base : Nat} {ad : Nat → Nat → Nat} {rg : Nat → Bool} {pl pl' : Nat → Nat} {V M V' M' : fV} {f n f' n' : Nat}
variable {yc ym : MethodName} {cb mb : ByteArray} {cl ml : Nat} {crt mrt : Option FieldType} {xs : List Value} {d w d2 w2 km : Nat} {r b : Int32}
theorem st_zero (hd : d ≤ 7) (hw : w ≤ 96) (hd2 : d2 ≤ 5) (hw2 : w2 ≤ 90) (hc : ∀ σ, Lay ar ad rg pl V M σ → CN l D ar base yc cb cl crt [] d w 6 36 (.ref (ad 0 0) :: xs) σ (fun o σ' _ => o = .returned (some (.int r)) ∧ Lay ar ad rg pl' V' M σ'))
    (hm : ∀ (W : fV) σ, Lay ar ad rg pl' W M σ → CN l D ar base ym mb ml mrt [] d2 w2 0 0 (.ref (ad 13 0) :: xs) σ (fun o σ' _ => o = .returned (some (.int b)) ∧ Lay ar ad rg pl' W M' σ')) (h27 : M' 27 0 = nI 0) (hrb : r = b) (hI : INV rg pl' V' M' f' n') (hbz : crt = Option.some Jvm.ClassFile.FieldType.boolean → r = nI 0 ∨ r = nI 1) : STEP l D ar base ad yc cb cl crt ym mb ml mrt xs km rg pl V M :=
  ⟨0, r, b, pl', V', M', f', n', fun σ hL => CN_w (hc σ hL) hd hw (fun o σ' t h => ⟨Or.inl ⟨rfl, h.1⟩, h.2⟩), fun W σ hL => CN_w (hm W σ hL) hd2 hw2 (fun o σ' t h => h), h27, fun _ => hrb, hI, Nat.zero_le _, hbz⟩
theorem st_one (hkm : 1 ≤ km) (hd : d ≤ 7) (hw : w ≤ 96) (hd2 : d2 ≤ 5) (hw2 : w2 ≤ 90) (hI : INV rg pl V M f n) (hc : ∀ σ, Lay ar ad rg pl V M σ → CN l D ar base yc cb cl crt [] d w 6 36 (.ref (ad 0 0) :: xs) σ (fun o σ' t => ∃ a, o = .threw a ∧ mp_T mp_iae a t ∧ σ' = σ))
    (hm : ∀ (W : fV) σ, Lay ar ad rg pl W M σ → CN l D ar base ym mb ml mrt [] d2 w2 0 0 (.ref (ad 13 0) :: xs) σ (fun o σ' _ => o = .returned (some (.int b)) ∧ Lay ar ad rg pl W (mu M 27 0 (nI 1)) σ')) : STEP l D ar base ad yc cb cl crt ym mb ml mrt xs km rg pl V M :=
  ⟨1, 0, b, pl, V, mu M 27 0 (nI 1), f, n, fun σ hL => CN_w (hc σ hL) hd hw (fun o σ' t h => by
    obtain ⟨a, ho, hT, hs⟩ := h
    exact ⟨Or.inr (Or.inl ⟨rfl, a, ho, hT⟩), by rw [hs]; exact hL⟩), fun W σ hL => CN_w (hm W σ hL) hd2 hw2 (fun o σ' t h => h), mu_s, fun z => absurd z (by decide), INV_27 hI, hkm, fun _ => Or.inl nI_0.symm⟩
theorem st_two (hkm : 2 ≤ km) (hd : d ≤ 7) (hw : w ≤ 96) (hd2 : d2 ≤ 5) (hw2 : w2 ≤ 90) (hI : INV rg pl V M f n) (hc : ∀ σ, Lay ar ad rg pl V M σ → CN l D ar base yc cb cl crt [] d w 6 36 (.ref (ad 0 0) :: xs) σ (fun o σ' t => ∃ a, o = .threw a ∧ mp_T mp_ise a t ∧ σ' = σ))
    (hm : ∀ (W : fV) σ, Lay ar ad rg pl W M σ → CN l D ar base ym mb ml mrt [] d2 w2 0 0 (.ref (ad 13 0) :: xs) σ (fun o σ' _ => o = .returned (some (.int b)) ∧ Lay ar ad rg pl W (mu (mu M 27 0 (nI 0)) 27 0 (nI 2)) σ')) : STEP l D ar base ad yc cb cl crt ym mb ml mrt xs km rg pl V M :=
  ⟨2, 0, b, pl, V, mu (mu M 27 0 (nI 0)) 27 0 (nI 2), f, n, fun σ hL => CN_w (hc σ hL) hd hw (fun o σ' t h => by
    obtain ⟨a, ho, hT, hs⟩ := h
    exact ⟨Or.inr (Or.inr ⟨rfl, a, ho, hT⟩), by rw [hs]; exact hL⟩), fun W σ hL => CN_w (hm W σ hL) hd2 hw2 (fun o σ' t h => h), mu_s, fun z => absurd z (by decide), INV_27 (INV_27 hI), hkm, fun _ => Or.inl nI_0.symm⟩
/-- numbers that are as they may be -/
theorem in_nat {k : Int32} {N : Nat} (hN : N < 2 ^ 31) (h : ¬ (k < 0 ∨ nI N ≤ k)) : ∃ a, a < N ∧ k = nI a := by
  obtain ⟨j, hj, rfl⟩ := nI_of (fun z => h (Or.inl z))
  refine ⟨j, ?_, rfl⟩
  by_cases hz : j < N
  · exact hz
  · exact absurd (Or.inr ((nI_leI hN hj).mpr (by omega))) h
theorem wi_iff {k : Int32} {N : Nat} (hN : N + 1 < 2 ^ 31) : (k < nI 0 ∨ nI N < k) ↔ (k < 0 ∨ nI (N + 1) ≤ k) := by
  rw [nI_0]
  have : nI N < k ↔ nI (N + 1) ≤ k := by
    rw [Int32.lt_iff_toInt_lt, Int32.le_iff_toInt_le, nI_toInt (by omega), nI_toInt hN]
    omega
  rw [this]
theorem wi_nat {k : Int32} {N : Nat} (hN : N + 1 < 2 ^ 31) (h : ¬ (k < nI 0 ∨ nI N < k)) : ∃ a, a ≤ N ∧ k = nI a := by
  obtain ⟨a, ha, hk⟩ := in_nat hN (fun z => h ((wi_iff hN).mpr z))
  exact ⟨a, by omega, hk⟩
theorem w1_iff {k : Int32} : (k < nI 1 ∨ nI 12 < k) ↔ (k - nI 1 < 0 ∨ nI 12 ≤ k - nI 1) := by
  have h1 := Int32.le_toInt k
  have h2 := Int32.toInt_lt k
  rw [Int32.lt_iff_toInt_lt, Int32.lt_iff_toInt_lt, Int32.lt_iff_toInt_lt, Int32.le_iff_toInt_le, Int32.toInt_sub, nI_toInt (by decide), nI_toInt (by decide), Int32.toInt_zero]
  unfold Int.bmod
  dsimp only
  (repeat' split) <;> omega
theorem w1_nat {k : Int32} (h : ¬ (k < nI 1 ∨ nI 12 < k)) : ∃ a, 1 ≤ a ∧ a ≤ 12 ∧ k = nI a := by
  have h0 : ¬ k < 0 := fun z => h (Or.inl (by
    rw [Int32.lt_iff_toInt_lt] at z ⊢
    rw [nI_toInt (by decide)]
    rw [Int32.toInt_zero] at z
    omega))
  obtain ⟨j, hj, rfl⟩ := nI_of h0
  refine ⟨j, ?_, ?_, rfl⟩
  · by_cases hz : 1 ≤ j
    · exact hz
    · exact absurd (Or.inl (nI_lt (by omega) (by decide))) h
  · by_cases hz : j ≤ 12
    · exact hz
    · exact absurd (Or.inr (nI_lt (by omega) (by omega))) h
/-- what was thrown stays written -/
theorem mas_27 {a dc a0 b0 : Nat} {fr su nu : Int32} : mas0 M n a dc a0 b0 fr su nu 27 0 = M 27 0 ∧ mas1 M n a dc a0 b0 fr su nu 27 0 = M 27 0 := by
  unfold mas0 mas1
  constructor
  · split
    · exact msn_o (by omega)
    · exact (msn_o (by omega)).trans (mu_k (by decide))
  · split
    · exact msn_o (by omega)
    · exact (msn_o (by omega)).trans ((mu_k (by decide)).trans ((mu_k (by decide)).trans ((mu_k (by decide)).trans (mu_k (by decide)))))
theorem mpb_27 {a dc a0 b0 : Nat} {su nu : Int32} : mpb M n a dc a0 b0 su nu 27 0 = M 27 0 := by
  unfold mpb mb3 mb2 mbt
  (repeat' split) <;> (repeat (first | rw [mal_o (by omega)] | rw [mu_k (by decide)])) <;> rfl
theorem mcm_27 {a dc c2 kd a0 b0 : Nat} : mcm M n a dc c2 kd a0 b0 27 0 = M 27 0 := by
  unfold mcm
  (repeat' split) <;> (repeat (first | rw [mas_27.1] | rw [mas_27.2] | rw [mpb_27] | rw [msn_o (by omega)] | rw [mla_o (by omega)] | rw [mln_o (by omega)] | rw [mu_k (by decide)]))
theorem mho_27 {i a dc c2 kd a0 b0 : Nat} : mho M i n a dc c2 kd a0 b0 27 0 = M 27 0 := by
  unfold mho
  split
  · rw [mcm_27, mtk_o (by omega)]
  · rw [mu_k (by decide), mtk_o (by omega)]
theorem mit_27 (k : Nat) : mit M k 27 0 = M 27 0 := by
  induction k with
  | zero => rfl
  | succ k ih =>
    show mst1 (mit M k) 27 0 = M 27 0
    unfold mst1
    rw [mho_27, ih]
theorem st_ask {k0 k1 k2 : Int32} (hfl : l.flags = flags0) (h : INV rg pl V M f n) : STEP l D ar base ad yy_sg_ask prog_1_method_3_code 6 (Option.some Jvm.ClassFile.FieldType.int) yy_md_ask prog_9_method_14_code 6 (Option.some Jvm.ClassFile.FieldType.int) [.int k0, .int k1, .int k2] 2 rg pl V M := by
  by_cases hq : (k0 < 0 ∨ nI 25 ≤ k0) ∨ (k1 < 0 ∨ nI 20 ≤ k1) ∨ (k2 < nI 0 ∨ nI 100000 < k2)
  · exact st_one (by decide) (by decide) (by decide) (by decide) (by decide) h (fun σ hL => kk_X_ask_1 hL hfl hq) (fun W σ hL => kk_MX_ask_1 hL (hq.imp id (Or.imp id (wi_iff (by decide)).mp)))
  · obtain ⟨a0, ha, rfl⟩ := in_nat (by decide) (fun z => hq (Or.inl z))
    obtain ⟨b0, hb, rfl⟩ := in_nat (by decide) (fun z => hq (Or.inr (Or.inl z)))
    obtain ⟨q0, hq0, rfl⟩ := wi_nat (by decide) (fun z => hq (Or.inr (Or.inr z)))
    cases hr : rg b0 with
    | false => exact st_two (by decide) (by decide) (by decide) (by decide) (by decide) h (fun σ hL => kk_X_ask_2a (nc := 0) hL hfl ha hb hq0 hr) (fun W σ hL => kk_MX_ask_2a hL rfl ha hb hq0 ((h.2.2.2 b0 hb).2 hr))
    | true =>
      obtain ⟨nc, pr, ac, g, sp, hD, hA, m0, s1, s2, hc⟩ := EQ_ask h ha hb hq0 hr
      have hl := hD.1
      rcases h.2.2.1 a0 ha with ⟨u, m2⟩ | ⟨u, m2⟩
      · rcases hc with ⟨la, c1, c2⟩ | ⟨la, c1 | c1⟩
        · refine st_zero (by decide) (by decide) (by decide) (by decide) (fun σ hL => kk_X_ask_0 hL hfl h.1.1 ha hb hq0 hr u hD.2.2.1.1 (by omega) la hD.2.2.1.2.2.2 hD.2.2.1.2.1 hD.2.1.1 (by omega) (by omega) rfl) (fun W σ hL => kk_MX_ask_0 hL rfl ha hb hq0 h.1.2.1 h.1.1.2.2.2.1 hD.2.2.2.1.1 (by omega) m0 c1 s2 m2 c2 hD.2.2.2.1.2.2.2 hD.2.2.2.1.2.1 (by omega) (by omega) rfl) ?_ rfl (SIM_ask h ha hb hq0 hr hD (by omega) m2 (nxt_le ha)) (fun z => by cases z)
          rw [mrd_27, mu_k (by decide), mu_k (by decide), mu_k (by decide), mu_k (by decide), mse_o (by omega), mu_s]
        · exact st_two (by decide) (by decide) (by decide) (by decide) (by decide) h (fun σ hL => kk_X_ask_2c hL hfl ha hb hq0 hr u hD.2.2.1.1 (by omega) la) (fun W σ hL => kk_MX_ask_2c hL rfl ha hb hq0 m0 (by omega) s2 m2 hD.2.2.2.1.1 (by omega) c1)
        · exact st_two (by decide) (by decide) (by decide) (by decide) (by decide) h (fun σ hL => kk_X_ask_2c hL hfl ha hb hq0 hr u hD.2.2.1.1 (by omega) la) (fun W σ hL => kk_MX_ask_2d hL rfl ha hb hq0 m0 c1.1 s2 m2 hD.2.2.2.1.1 c1.2.1 c1.2.2)
      · exact st_two (by decide) (by decide) (by decide) (by decide) (by decide) h (fun σ hL => kk_X_ask_2b (nc := 0) hL hfl ha hb hq0 hr u) (fun W σ hL => kk_MX_ask_2b hL rfl ha hb hq0 m0 (by omega) s2 m2)
theorem st_retry {k0 k1 : Int32} (hfl : l.flags = flags0) (h : INV rg pl V M f n) : STEP l D ar base ad yy_sg_retry prog_1_method_4_code 4 (Option.some Jvm.ClassFile.FieldType.int) yy_md_retry prog_9_method_15_code 3 (Option.some Jvm.ClassFile.FieldType.int) [.int k0, .int k1] 2 rg pl V M := by
  by_cases hq : (k0 < 0 ∨ nI 25 ≤ k0) ∨ (k1 < 0 ∨ nI 20 ≤ k1)
  · exact st_one (by decide) (by decide) (by decide) (by decide) (by decide) h (fun σ hL => kk_X_retry_1 hL hfl hq) (fun W σ hL => kk_MX_retry_1 hL hq)
  · obtain ⟨a0, ha, rfl⟩ := in_nat (by decide) (fun z => hq (Or.inl z))
    obtain ⟨b0, hb, rfl⟩ := in_nat (by decide) (fun z => hq (Or.inr z))
    rcases h.2.2.1 a0 ha with ⟨u, m2⟩ | ⟨u, m2⟩
    · have hk := INV_asks h ha hb
      by_cases hz : V 39 (dx rg a0 b0) = 0
      · have m11 : M 11 (20 * a0 + b0) = 0 := by
          cases hr : rg b0 with
          | false => exact (h.2.1.2.1 a0 b0 ha hb hr).2.1.trans nI_0
          | true =>
            obtain ⟨nc, pr, ac, g, hD, hA⟩ := h.2.1.1 a0 b0 ha hb hr
            rcases hA.2 with q | q
            · exact q.1.trans nI_0
            · refine absurd ?_ (hk.mp hz)
              have := q.1.1
              rw [q.1.2.1, ← nI_0]; exact nI_lt (by omega) (by omega)
        exact st_two (by decide) (by decide) (by decide) (by decide) (by decide) h (fun σ hL => kk_X_retry_2b hL hfl ha hb rfl u hz) (fun W σ hL => kk_MX_retry_2b hL rfl ha hb m2 m11)
      · cases hr : rg b0 with
        | false =>
          have e1 : dx rg a0 b0 = 500 := if_neg (by rw [hr]; decide)
          obtain ⟨-, -, -, -, -, -, h39, -⟩ := h.2.1.2.2
          rw [e1, h39] at hz
          exact absurd nI_0 hz
        | true =>
          have e1 : dx rg a0 b0 = 20 * a0 + b0 := if_pos hr
          rw [e1] at hz
          obtain ⟨nc, pr, ac, g, hD, hA⟩ := h.2.1.1 a0 b0 ha hb hr
          have hl := hD.1
          rcases hA.2 with q | q
          · exact absurd ((hA.1.2.2.1.trans q.2.2.1).trans nI_0) hz
          · obtain ⟨⟨d12, m11, -⟩, -, -, -, ⟨rf, r1, r2, r3⟩, -⟩ := id q
            have hne : ¬ M 11 (20 * a0 + b0) = 0 := by rw [m11]; exact nI_ne0 (by omega) (by omega)
            refine st_zero (by decide) (by decide) (by decide) (by decide) (fun σ hL => kk_X_retry_0 hL hfl h.1.1 ha hb e1 u hz hD.2.2.1.1 (by omega) hD.2.2.1.2.2.2 hD.2.2.1.2.1 r2 hD.2.1.1 (by omega) (by omega) (by omega) ha rfl) (fun W σ hL => kk_MX_retry_0 hL rfl ha hb h.1.2.1 h.1.1.2.2.2.1 hD.2.2.2.1.1 (by omega) hD.2.2.2.1.2.2.2 hD.2.2.2.1.2.1 r3 (by omega) (by omega) (by omega) rfl m2 hne) ?_ rfl (SIM_retry h ha hb hr hD hA.1.1 q (nxt_le ha)) (fun z => by cases z)
            rw [mrd_27, mu_s]
    · exact st_two (by decide) (by decide) (by decide) (by decide) (by decide) h (fun σ hL => kk_X_retry_2a hL hfl ha hb u) (fun W σ hL => kk_MX_retry_2a hL rfl ha hb m2)
theorem st_deliver {k0 : Int32} (hfl : l.flags = flags0) (h : INV rg pl V M f n) : STEP l D ar base ad yy_sg_deliver prog_1_method_5_code 2 (Option.some Jvm.ClassFile.FieldType.int) yy_md_deliver prog_9_method_22_code 2 (Option.some Jvm.ClassFile.FieldType.int) [.int k0] 1 rg pl V M := by
  have hn2 := h.1.1.2.2.2.1
  by_cases hq : k0 < 0 ∨ nI n ≤ k0
  · exact st_one (by decide) (by decide) (by decide) (by decide) (by decide) h (fun σ hL => kk_X_deliver_1 hL h.1.1.2.2.1 hfl hq) (fun W σ hL => kk_MX_deliver_1 hL h.1.2.1 hq)
  · obtain ⟨i, hi, rfl⟩ := in_nat (by omega) hq
    have h0 := INV_27 (v := nI 0) h
    obtain ⟨kd, fr, s0, b0, su, nu, mo, c2, dc, hv, hC, hd, hM3, h12⟩ := INV_letter h0 hi
    obtain ⟨k1, k2, k3, k4, k5, k6⟩ := LTv_kd hv
    obtain ⟨⟨n', i1⟩, i2⟩ := SIM_deliver h0 hi hv hC hd hM3
    obtain ⟨a1, a2, a3, a4, a5, a6, a7, a8⟩ := id hv.2.1
    obtain ⟨b1, b2, b3, b4, b5, b6, b7, b8⟩ := id hv.2.2.1
    have o21 : ∀ j, mu M 27 0 (nI 0) 21 j = M 21 j := fun j => mu_k (by decide)
    refine st_zero (by decide) (by decide) (by decide) (by decide) (fun σ hL => kk_X_deliver_0 hL hfl h.1.1 hi rfl k3 k4 rfl (h.1.1.2.2.2.2 _ (by omega)) a3 a4 a1 k2 hC hd a8 k5 h12) (fun W σ hL => kk_MX_deliver_0 hL rfl k3 k4 h.1.2.1 hn2 ((mu_k (by decide)).symm.trans hM3) hd hi ((o21 _).symm.trans b1) k1 k2 ((o21 _).symm.trans b3) ((o21 _).symm.trans b4) ((o21 _).symm.trans b8) k5 (h12_of h0 hi hv hM3 hd)) ?_ ?_ i1 (fun z => by cases z)
    · rw [mho_27, mu_s]
    · rw [i2, Int32.add_comm, Int32.add_sub_cancel]
theorem st_drop {k0 : Int32} (hfl : l.flags = flags0) (h : INV rg pl V M f n) : STEP l D ar base ad yy_sg_drop prog_1_method_6_code 2 (Option.some Jvm.ClassFile.FieldType.int) yy_md_drop prog_9_method_23_code 2 (Option.some Jvm.ClassFile.FieldType.int) [.int k0] 1 rg pl V M := by
  have hn2 := h.1.1.2.2.2.1
  by_cases hq : k0 < 0 ∨ nI n ≤ k0
  · exact st_one (by decide) (by decide) (by decide) (by decide) (by decide) h (fun σ hL => kk_X_drop_1 hL h.1.1.2.2.1 hfl hq) (fun W σ hL => kk_MX_drop_1 hL h.1.2.1 hq)
  · obtain ⟨i, hi, rfl⟩ := in_nat (by omega) hq
    have h0 := INV_27 (v := nI 0) h
    obtain ⟨kd, fr, s0, b0, su, nu, mo, c2, -, ⟨a1, -⟩, ⟨b1, -⟩, -⟩ := h.1.2.2.2.2 i hi
    refine st_zero (by decide) (by decide) (by decide) (by decide) (fun σ hL => kk_X_drop_0 hL hfl h.1.1 hi rfl (h.1.1.2.2.2.2 _ (by omega))) (fun W σ hL => kk_MX_drop_0 hL h.1.2.1 hn2 hi) ?_ ?_ (INV_take h0 hi) (fun z => by cases z)
    · rw [mtk_o (by omega), mu_s]
    · rw [mtk_23 (by decide), mu_k (by decide)]; exact a1.trans b1.symm
theorem st_copy {k0 : Int32} (hfl : l.flags = flags0) (h : INV rg pl V M f n) : STEP l D ar base ad yy_sg_copy prog_1_method_7_code 2 (Option.some Jvm.ClassFile.FieldType.boolean) yy_md_copy prog_9_method_24_code 3 (Option.some Jvm.ClassFile.FieldType.boolean) [.int k0] 1 rg pl V M := by
  have hn2 := h.1.1.2.2.2.1
  have hf2 := h.1.1.2.1
  by_cases hq : k0 < 0 ∨ nI n ≤ k0
  · exact st_one (by decide) (by decide) (by decide) (by decide) (by decide) h (fun σ hL => kk_X_copy_1 hL h.1.1.2.2.1 hfl hq) (fun W σ hL => kk_MX_copy_1 hL h.1.2.1 hq)
  · obtain ⟨i, hi, rfl⟩ := in_nat (by omega) hq
    obtain ⟨kd, fr, s0, b0, su, nu, mo, c2, hk, ⟨-, -, -, -, -, -, -, a8⟩, -⟩ := h.1.2.2.2.2 i hi
    have hc2 : c2 ≤ 12 := hk.2.2.2.2.2.2.2.2.1
    have hne : n < 100 → pl ((f + i) % 100 + 1) ≠ pl ((f + n) % 100 + 1) := fun hn z => by
      have := h.1.2.2.1 _ _ (by omega) (by omega) z
      omega
    by_cases hn : n < 100
    · refine st_zero (by decide) (by decide) (by decide) (by decide) (fun σ hL => kk_X_copy_0 hL hfl h.1.1 hi hne a8 hc2) (fun W σ hL => kk_MX_copy_0 hL h.1.2.1 hn hi) ?_ (if_pos hn) (SIM_copy h hi hn a8 hc2) (fun _ => Or.inr (if_pos hn))
      rw [mu_k (by decide), ccp_o (by decide), mu_s]
    · have e1 : n = 100 := by omega
      subst e1
      refine st_zero (by decide) (by decide) (by decide) (by decide) (fun σ hL => kk_X_copy_0 hL hfl h.1.1 hi hne a8 hc2) (fun W σ hL => kk_MX_copy_f hL h.1.2.1 hi) mu_s (if_neg hn) (f' := f) (n' := 100) ?_ (fun _ => Or.inl (if_neg hn))
      have e2 : rpt pl f 100 i c2 V = V := if_neg hn
      rw [e2]; exact INV_27 h
theorem st_deliverAll {k0 : Int32} (hfl : l.flags = flags0) (h : INV rg pl V M f n) : STEP l D ar base ad yy_sg_deliverAll prog_1_method_8_code 3 (Option.some Jvm.ClassFile.FieldType.int) yy_md_deliverAll prog_9_method_25_code 3 (Option.some Jvm.ClassFile.FieldType.int) [.int k0] 1 rg pl V M := by
  by_cases hq : k0 < nI 0 ∨ nI 2000 < k0
  · exact st_one (by decide) (by decide) (by decide) (by decide) (by decide) h (fun σ hL => kk_X_deliverAll_1 hL hfl hq) (fun W σ hL => kk_MX_deliverAll_1 hL ((wi_iff (by decide)).mp hq))
  · obtain ⟨q0, hq0, rfl⟩ := wi_nat (by decide) hq
    have h0 := INV_27 (v := nI 0) h
    by_cases hk : ∃ k, DONE (mu M 27 0 (nI 0)) q0 k
    · obtain ⟨k, hk⟩ := hk
      obtain ⟨f', n', hI⟩ := SIM_iter h0 k hk.2.1
      exact ⟨0, nI k, nI k, (cit rg (pl, V) k).1, (cit rg (pl, V) k).2, mit (mu M 27 0 (nI 0)) k, f', n', fun σ hL => CN_w (kk_X_deliverAll_0 hL hfl hq0 h0) (by decide) (by decide) (fun o σ' t hz => by
          obtain ⟨k', ho, hd, hl⟩ := hz
          obtain rfl := DONE_one hk hd
          exact ⟨Or.inl ⟨rfl, ho⟩, hl⟩), fun W σ hL => CN_w (kk_MX_deliverAll_0 hL hq0 h) (by decide) (by decide) (fun o σ' t hz => by
          obtain ⟨k', ho, hd, hl⟩ := hz
          obtain rfl := DONE_one hk hd
          exact ⟨ho, hl⟩), by rw [mit_27, mu_s], fun _ => rfl, hI, by decide, fun z => by cases z⟩
    · exact ⟨0, 0, 0, pl, V, mu M 27 0 (nI 0), f, n, fun σ hL => CN_w (kk_X_deliverAll_0 hL hfl hq0 h0) (by decide) (by decide) (fun o σ' t hz => by
          obtain ⟨k', ho, hd, hl⟩ := hz
          exact absurd ⟨k', hd⟩ hk), fun W σ hL => CN_w (kk_MX_deliverAll_0 hL hq0 h) (by decide) (by decide) (fun o σ' t hz => by
          obtain ⟨k', ho, hd, hl⟩ := hz
          exact absurd ⟨k', hd⟩ hk), mu_s, fun _ => rfl, h0, by decide, fun z => by cases z⟩
theorem st_up {k0 : Int32} {b0 : Nat} (hb : b0 = 0 ∨ b0 = 1) (hfl : l.flags = flags0) (h : INV rg pl V M f n) : STEP l D ar base ad yy_sg_up prog_1_method_9_code 3 (Option.some Jvm.ClassFile.FieldType.boolean) yy_md_up prog_9_method_26_code 5 (Option.some Jvm.ClassFile.FieldType.boolean) [.int k0, .int (nI b0)] 1 rg pl V M := by
  by_cases hq : k0 < 0 ∨ nI 25 ≤ k0
  · exact st_one (by decide) (by decide) (by decide) (by decide) (by decide) h (fun σ hL => kk_X_up_1 hL hfl hq) (fun W σ hL => kk_MX_up_1 hL hq)
  · obtain ⟨a0, ha, rfl⟩ := in_nat (by decide) hq
    have e27 : ∀ v : Int32, mea (mu (mu M 27 0 (nI 0)) 2 a0 v) a0 20 27 0 = nI 0 := fun v => by rw [mea_o (by omega), mu_k (by decide), mu_s]
    rcases h.2.2.1 a0 ha with ⟨u, m2⟩ | ⟨u, m2⟩ <;> rcases hb with rfl | rfl
    · exact st_zero (by decide) (by decide) (by decide) (by decide) (fun σ hL => kk_X_up_t0 hL hfl ha u) (fun W σ hL => kk_MX_up_00 hL ha m2) (e27 _) rfl (UP_t0 h ha u) (fun _ => Or.inr rfl)
    · exact st_zero (by decide) (by decide) (by decide) (by decide) (fun σ hL => kk_X_up_t1 hL hfl ha u) (fun W σ hL => kk_MX_up_01 hL ha m2) ((mu_k (by decide)).trans mu_s) rfl (UP_t1 h m2) (fun _ => Or.inl rfl)
    · exact st_zero (by decide) (by decide) (by decide) (by decide) (fun σ hL => kk_X_up_f0 hL hfl ha u) (fun W σ hL => kk_MX_up_10 hL ha m2) (e27 _) rfl (UP_f0 h ha m2) (fun _ => Or.inl rfl)
    · exact st_zero (by decide) (by decide) (by decide) (by decide) (fun σ hL => kk_X_up_f1 hL hfl ha u) (fun W σ hL => kk_MX_up_11 hL ha m2) ((mu_k (by decide)).trans mu_s) rfl (UP_f1 h ha u m2) (fun _ => Or.inr rfl)
theorem st_teach {k0 k1 k2 : Int32} (hfl : l.flags = flags0) (h : INV rg pl V M f n) : STEP l D ar base ad yy_sg_teach prog_1_method_10_code 4 (Option.some Jvm.ClassFile.FieldType.boolean) yy_md_teach prog_9_method_27_code 5 (Option.some Jvm.ClassFile.FieldType.boolean) [.int k0, .int k1, .int k2] 2 rg pl V M := by
  by_cases hq : (k0 < 0 ∨ nI 25 ≤ k0) ∨ (k1 < 0 ∨ nI 25 ≤ k1) ∨ (k2 < 0 ∨ nI 20 ≤ k2)
  · exact st_one (by decide) (by decide) (by decide) (by decide) (by decide) h (fun σ hL => kk_X_teach_1 hL hfl hq) (fun W σ hL => kk_MX_teach_1 hL hq)
  · obtain ⟨a0, ha, rfl⟩ := in_nat (by decide) (fun z => hq (Or.inl z))
    obtain ⟨a1, ha1, rfl⟩ := in_nat (by decide) (fun z => hq (Or.inr (Or.inl z)))
    obtain ⟨b0, hb, rfl⟩ := in_nat (by decide) (fun z => hq (Or.inr (Or.inr z)))
    rcases h.2.2.1 a0 ha with ⟨u, m2⟩ | ⟨u, m2⟩
    · obtain ⟨nc, c1, c2, c3, c4⟩ := INV_cnt h ha hb
      refine st_zero (by decide) (by decide) (by decide) (by decide) (fun σ hL => kk_X_teach_0 hL hfl h.1.1 ha ha1 hb rfl u c2 c1) (fun W σ hL => kk_MX_teach_0 hL rfl ha hb ha1 h.1.2.1 h.1.1.2.2.2.1 c3 c1 m2) ?_ rfl (SIM_teach h ha ha1 hb c2 c1) (fun _ => by by_cases hn9 : n < 100 <;> simp [hn9])
      rw [msn_o (by omega), mu_s]
    · exact st_two (by decide) (by decide) (by decide) (by decide) (by decide) h (fun σ hL => kk_X_teach_2 hL hfl ha ha1 hb u) (fun W σ hL => kk_MX_teach_2 hL ha ha1 hb m2)
theorem st_letter {k0 k1 : Int32} (hfl : l.flags = flags0) (h : INV rg pl V M f n) : STEP l D ar base ad yy_sg_letter prog_1_method_12_code 3 (Option.some Jvm.ClassFile.FieldType.int) yy_md_letter prog_9_method_29_code 3 (Option.some Jvm.ClassFile.FieldType.int) [.int k0, .int k1] 1 rg pl V M := by
  have hn2 := h.1.1.2.2.2.1
  by_cases hq : (k0 < 0 ∨ nI n ≤ k0) ∨ (k1 < nI 0 ∨ nI 9 < k1)
  · exact st_one (by decide) (by decide) (by decide) (by decide) (by decide) h (fun σ hL => kk_X_letter_1 hL h.1.1.2.2.1 hfl hq) (fun W σ hL => kk_MX_letter_1 hL h.1.2.1 (hq.imp id (wi_iff (by decide)).mp))
  · obtain ⟨i, hi, rfl⟩ := in_nat (by omega) (fun z => hq (Or.inl z))
    obtain ⟨j, hj, rfl⟩ := wi_nat (by decide) (fun z => hq (Or.inr z))
    exact st_zero (by decide) (by decide) (by decide) (by decide) (fun σ hL => kk_X_letter_0 hL hfl h.1.1 hi rfl (h.1.1.2.2.2.2 _ (by omega)) (by omega)) (fun W σ hL => kk_MX_letter_0 hL h.1.2.1 hn2 hi (by omega)) mu_s (EQ_letter h hi (by omega)) (INV_27 h) (fun z => by cases z)
theorem st_state {k0 k1 : Int32} (hfl : l.flags = flags0) (h : INV rg pl V M f n) : STEP l D ar base ad yy_sg_state prog_1_method_13_code 4 (Option.some Jvm.ClassFile.FieldType.int) yy_md_state prog_9_method_30_code 4 (Option.some Jvm.ClassFile.FieldType.int) [.int k0, .int k1] 1 rg pl V M := by
  by_cases hq : (k0 < 0 ∨ nI 25 ≤ k0) ∨ (k1 < 0 ∨ nI 20 ≤ k1)
  · exact st_one (by decide) (by decide) (by decide) (by decide) (by decide) h (fun σ hL => kk_X_state_1 hL hfl hq) (fun W σ hL => kk_MX_state_1 hL hq)
  · obtain ⟨a0, ha, rfl⟩ := in_nat (by decide) (fun z => hq (Or.inl z))
    obtain ⟨b0, hb, rfl⟩ := in_nat (by decide) (fun z => hq (Or.inr z))
    obtain ⟨nc, c1, c2, c3, c4⟩ := INV_cnt h ha hb
    exact st_zero (by decide) (by decide) (by decide) (by decide) (fun σ hL => kk_X_state_0 hL hfl ha hb rfl c2 c1) (fun W σ hL => kk_MX_state_0 hL rfl ha hb c3 c1) mu_s (EQ_state h ha hb c2 c1) (INV_27 h) (fun z => by cases z)
theorem st_granted {k0 k1 k2 : Int32} {e0 : Nat} (he : e0 = 0 ∨ e0 = 1) (hfl : l.flags = flags0) (h : INV rg pl V M f n) : STEP l D ar base ad yy_sg_granted prog_1_method_14_code 6 (Option.some Jvm.ClassFile.FieldType.int) yy_md_granted prog_9_method_31_code 6 (Option.some Jvm.ClassFile.FieldType.int) [.int k0, .int k1, .int k2, .int (nI e0)] 1 rg pl V M := by
  by_cases hq : (k0 < 0 ∨ nI 25 ≤ k0) ∨ (k1 < 0 ∨ nI 20 ≤ k1) ∨ (k2 < nI 1 ∨ nI 12 < k2)
  · exact st_one (by decide) (by decide) (by decide) (by decide) (by decide) h (fun σ hL => kk_X_granted_1 hL hfl hq) (fun W σ hL => kk_MX_granted_1 hL (hq.imp id (Or.imp id w1_iff.mp)))
  · obtain ⟨a0, ha, rfl⟩ := in_nat (by decide) (fun z => hq (Or.inl z))
    obtain ⟨b0, hb, rfl⟩ := in_nat (by decide) (fun z => hq (Or.inr (Or.inl z)))
    obtain ⟨j, hj, hj2, rfl⟩ := w1_nat (fun z => hq (Or.inr (Or.inr z)))
    obtain ⟨nc, c1, c2, c3, c4⟩ := INV_cnt h ha hb
    rcases he with rfl | rfl
    · exact st_zero (by decide) (by decide) (by decide) (by decide) (fun σ hL => kk_X_granted_00 hL hfl ha hb hj hj2 rfl c2 c1) (fun W σ hL => kk_MX_granted_00 hL rfl ha hb hj hj2 c3 c1) mu_s (EQ_granted h ha hb c2 c1 hj).1 (INV_27 h) (fun z => by cases z)
    · exact st_zero (by decide) (by decide) (by decide) (by decide) (fun σ hL => kk_X_granted_01 hL hfl ha hb hj hj2 rfl c2 c1) (fun W σ hL => kk_MX_granted_01 hL rfl ha hb hj hj2 c3 c1) mu_s (EQ_granted h ha hb c2 c1 hj).2 (INV_27 h) (fun z => by cases z)
theorem st_kept {k0 k1 k2 : Int32} (hfl : l.flags = flags0) (h : INV rg pl V M f n) : STEP l D ar base ad yy_sg_kept prog_1_method_15_code 4 (Option.some Jvm.ClassFile.FieldType.int) yy_md_kept prog_9_method_32_code 7 (Option.some Jvm.ClassFile.FieldType.int) [.int k0, .int k1, .int k2] 1 rg pl V M := by
  by_cases hq : (k0 < 0 ∨ nI 25 ≤ k0) ∨ (k1 < 0 ∨ nI 20 ≤ k1) ∨ (k2 < nI 0 ∨ nI 8 < k2)
  · exact st_one (by decide) (by decide) (by decide) (by decide) (by decide) h (fun σ hL => kk_X_kept_1 hL hfl hq) (fun W σ hL => kk_MX_kept_1 hL (hq.imp id (Or.imp id (wi_iff (by decide)).mp)))
  · obtain ⟨a0, ha, rfl⟩ := in_nat (by decide) (fun z => hq (Or.inl z))
    obtain ⟨b0, hb, rfl⟩ := in_nat (by decide) (fun z => hq (Or.inr (Or.inl z)))
    obtain ⟨j, hj, rfl⟩ := wi_nat (by decide) (fun z => hq (Or.inr (Or.inr z)))
    exact st_zero (by decide) (by decide) (by decide) (by decide) (fun σ hL => kk_X_kept_0 hL hfl ha hb (by omega) rfl) (fun W σ hL => kk_MX_kept_0 hL rfl ha hb (by omega)) mu_s (EQ_kept h ha hb (by omega)) (INV_27 h) (fun z => by cases z)
theorem st_total {k0 : Int32} (hfl : l.flags = flags0) (h : INV rg pl V M f n) : STEP l D ar base ad yy_sg_total prog_1_method_17_code 2 (Option.some Jvm.ClassFile.FieldType.int) yy_md_total prog_9_method_34_code 2 (Option.some Jvm.ClassFile.FieldType.int) [.int k0] 1 rg pl V M := by
  by_cases hq : k0 < nI 0 ∨ nI 2 < k0
  · exact st_one (by decide) (by decide) (by decide) (by decide) (by decide) h (fun σ hL => kk_X_total_1 hL hfl hq) (fun W σ hL => kk_MX_total_1 hL ((wi_iff (by decide)).mp hq))
  · obtain ⟨j, hj, rfl⟩ := wi_nat (by decide) hq
    exact st_zero (by decide) (by decide) (by decide) (by decide) (fun σ hL => kk_X_total_0 hL hfl (by omega)) (fun W σ hL => kk_MX_total_0 hL (by omega)) mu_s (EQ_total h) (INV_27 h) (fun z => by cases z)
end STS
/-- register gives no answer, and may make cells -/
def COv (k : Nat) (o : Outcome) (t : State) : Prop := (k = 0 ∧ o = .returned none) ∨ (k = 1 ∧ ∃ a, o = .threw a ∧ mp_T mp_iae a t) ∨ (k = 2 ∧ ∃ a, o = .threw a ∧ mp_T mp_ise a t)
def SAD (ad ad' : Nat → Nat → Nat) : Prop := ad' 0 0 = ad 0 0 ∧ ad' 13 0 = ad 13 0 ∧ ad' 15 0 = ad 15 0
theorem st_register {l : Launch} {D : va_G} {ar : Nat → ClassId} {base : Nat} {ad : Nat → Nat → Nat} {rg : Nat → Bool} {pl : Nat → Nat} {V M : fV} {f n : Nat} {k0 k1 k2 : Int32} (hfl : l.flags = flags0) (h : INV rg pl V M f n) : ∃ (k : Nat) (rg' : Nat → Bool) (V' M' : fV),
    (∀ σ, Lay ar ad rg pl V M σ → CN l D ar base yy_sg_register prog_1_method_2_code 4 (Option.none : Option Jvm.ClassFile.FieldType) [] 7 130 110 800 (.ref (ad 0 0) :: [.int k0, .int k1, .int k2]) σ (fun o σ' t => COv k o t ∧ ∃ ad' : Nat → Nat → Nat, Lay ar ad' rg' pl V' M σ' ∧ SAD ad ad')) ∧
    (∀ (ad : Nat → Nat → Nat) (W : fV) σ, Lay ar ad rg' pl W M σ → CN l D ar base yy_md_register prog_9_method_8_code 4 (Option.none : Option Jvm.ClassFile.FieldType) [] 2 26 0 0 (.ref (ad 13 0) :: [.int k0, .int k1, .int k2]) σ (fun o σ' _ => o = .returned none ∧ Lay ar ad rg' pl W M' σ')) ∧
    M' 27 0 = nI k ∧ INV rg' pl V' M' f n ∧ k ≤ 2 := by
  by_cases hq : (k0 < 0 ∨ nI 20 ≤ k0) ∨ (k1 < nI 1 ∨ nI 12 < k1) ∨ (k2 < nI 0 ∨ nI 90 < k2)
  · refine ⟨1, rg, V, mu M 27 0 (nI 1), fun σ hL => CN_wm (kk_X_register_1 hL hfl hq) (by decide) (by decide) (by decide) (by decide) (fun o σ' t hz => ?_), fun ad W σ hL => kk_MX_register_1 hL (hq.imp id (Or.imp w1_iff.mp (wi_iff (by decide)).mp)), mu_s, INV_27 h, by decide⟩
    obtain ⟨a, ho, hT, hs⟩ := hz
    exact ⟨Or.inr (Or.inl ⟨rfl, a, ho, hT⟩), ad, by rw [hs]; exact hL, rfl, rfl, rfl⟩
  · obtain ⟨b0, hb, rfl⟩ := in_nat (by decide) (fun z => hq (Or.inl z))
    obtain ⟨c1, hc1, hc2, rfl⟩ := w1_nat (fun z => hq (Or.inr (Or.inl z)))
    obtain ⟨c2, hc3, rfl⟩ := wi_nat (by decide) (fun z => hq (Or.inr (Or.inr z)))
    cases hr : rg b0 with
    | true =>
      obtain ⟨sp, ap, s1, s2, p1, v60, v61, m0, m1'⟩ := (h.2.2.2 b0 hb).1 hr
      refine ⟨2, rg, V, mu (mu M 27 0 (nI 0)) 27 0 (nI 2), fun σ hL => CN_wm (kk_X_register_2 hL hfl hb hc1 hc2 hc3 hr) (by decide) (by decide) (by decide) (by decide) (fun o σ' t hz => ?_), fun ad W σ hL => kk_MX_register_2 hL hb hc1 hc2 (by omega) m0 (by omega) (by omega), mu_s, INV_27 (INV_27 h), by decide⟩
      obtain ⟨a, ho, hT, hs⟩ := hz
      exact ⟨Or.inr (Or.inr ⟨rfl, a, ho, hT⟩), ad, by rw [hs]; exact hL, rfl, rfl, rfl⟩
    | false =>
      refine ⟨0, rgu rg b0, rgV V b0 (nI c1) (nI c2), _, fun σ hL => CN_wm (kk_X_register_0 hL hfl hb hc1 hc2 hc3 hr) (by decide) (by decide) (by decide) (by decide) (fun o σ' t hz => ?_), fun ad W σ hL => kk_MX_register_0 hL hb hc1 hc2 (by omega) ((h.2.2.2 b0 hb).2 hr), ?_, SIM_reg h hb hr hc1 hc2 hc3, by decide⟩
      · obtain ⟨ho, ad', hl, e0, e1, e2⟩ := hz
        exact ⟨Or.inl ⟨rfl, ho⟩, ad', hl, e0, e1, e2⟩
      · rw [mu_k (by decide), mu_k (by decide), mu_s]
