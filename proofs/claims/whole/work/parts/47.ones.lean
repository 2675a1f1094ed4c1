/-! ONES: the class's count of bits is the model's. -/
def su (k : Int32) (j : Int32) : Int32 := (k.toUInt32 >>> ((j : Int32).toUInt32 &&& Int32.toUInt32 31)).toInt32
def bo1 (k : Int32) : Int32 := k - (su k (nI 1) &&& 1431655765)
def bo2 (k : Int32) : Int32 := (k &&& 858993459) + (su k (nI 2) &&& 858993459)
def bo3 (k : Int32) : Int32 := (k + su k (nI 4)) &&& 252645135
def bo4 (k : Int32) : Int32 := k + su k (nI 8)
def bo5 (k : Int32) : Int32 := k + su k (nI 16)
theorem btc_bo (k : Int32) : btc k = bo5 (bo4 (bo3 (bo2 (bo1 k)))) &&& (nI 63) := rfl
theorem nI_and (a b : Nat) : nI a &&& nI b = nI (a &&& b) := by
  apply Int32.toBitVec_inj.mp
  apply BitVec.eq_of_getLsbD_eq
  intro i hi
  rw [Int32.toBitVec_and, BitVec.getLsbD_and, nI_bit _ hi, nI_bit _ hi, nI_bit _ hi, Nat.testBit_and]
theorem su_nI {a j : Nat} (ha : a < 2 ^ 32) (hj : ((nI j).toUInt32 &&& Int32.toUInt32 31).toNat % 32 = j) : su (nI a) (nI j) = nI (a / 2 ^ j) := by
  have h1 : (nI a).toUInt32 = UInt32.ofNat a := rfl
  have h2 : a / 2 ^ j < 2 ^ 32 := Nat.lt_of_le_of_lt (Nat.div_le_self _ _) ha
  have h3 : UInt32.ofNat a >>> ((nI j).toUInt32 &&& Int32.toUInt32 31) = UInt32.ofNat (a / 2 ^ j) := by
    apply UInt32.toNat_inj.mp
    rw [UInt32.toNat_shiftRight, hj, UInt32.toNat_ofNat_of_lt' ha, UInt32.toNat_ofNat_of_lt' h2, Nat.shiftRight_eq_div_pow]
  unfold su
  rw [h1, h3]
  rfl
/-- digits -/
def vb (B : Nat) : List Nat → Nat
  | [] => 0
  | d :: ds => d + B * vb B ds
def evd : List Nat → List Nat
  | [] => []
  | [d] => [d]
  | d :: _ :: ds => d :: 0 :: evd ds
def amk (B : Nat) : Nat → Nat
  | 0 => 0
  | 1 => B - 1
  | n + 2 => (B - 1) + B * (0 + B * amk B n)
theorem and_dig {k d g y z : Nat} (hd : d < 2 ^ k) (hg : g = 0 ∨ g = 2 ^ k - 1) : (d + 2 ^ k * y) &&& (g + 2 ^ k * z) = (if g = 0 then 0 else d) + 2 ^ k * (y &&& z) := by
  have hpos : 0 < 2 ^ k := Nat.two_pow_pos k
  have hgl : g < 2 ^ k := by omega
  have hr : (if g = 0 then 0 else d) < 2 ^ k := by split <;> omega
  apply Nat.eq_of_testBit_eq
  intro i
  rw [Nat.testBit_and, Nat.add_comm d, Nat.add_comm g, Nat.add_comm (if g = 0 then 0 else d), Nat.testBit_two_pow_mul_add _ hd, Nat.testBit_two_pow_mul_add _ hgl, Nat.testBit_two_pow_mul_add _ hr]
  by_cases hi : i < k
  · rw [if_pos hi, if_pos hi, if_pos hi]
    by_cases h0 : g = 0
    · rw [if_pos h0, h0, Nat.zero_testBit, Bool.and_false]
    · rw [if_neg h0]
      have h1 : g = 2 ^ k - 1 := by omega
      rw [h1, Nat.testBit_two_pow_sub_one, decide_eq_true hi, Bool.and_true]
  · rw [if_neg hi, if_neg hi, if_neg hi, Nat.testBit_and]
theorem vb_and (k : Nat) (hk : 0 < k) : ∀ (N : Nat) (ds : List Nat), ds.length = N → (∀ d ∈ ds, d < 2 ^ k) → vb (2 ^ k) ds &&& amk (2 ^ k) N = vb (2 ^ k) (evd ds) := by
  have h2 : 2 ≤ 2 ^ k := Nat.le_trans (by decide) (Nat.pow_le_pow_right (by decide) hk)
  intro N
  induction N using Nat.strongRecOn with
  | _ N ih =>
    intro ds hl hd
    match ds, hl, hd with
    | [], hl, _ => cases hl; rfl
    | [d], hl, hd =>
      cases hl
      have := hd d (by simp)
      have q := and_dig (k := k) (d := d) (g := 2 ^ k - 1) (y := 0) (z := 0) this (Or.inr rfl)
      rw [if_neg (by omega)] at q
      exact q
    | d :: d' :: ds, hl, hd =>
      cases hl
      have hd1 := hd d (by simp)
      have hd2 := hd d' (by simp)
      have hi := ih ds.length (by show ds.length < ds.length + 1 + 1; omega) ds rfl (fun y hy => hd y (by simp [hy]))
      have q1 := and_dig (k := k) (d := d) (g := 2 ^ k - 1) (y := d' + 2 ^ k * vb (2 ^ k) ds) (z := 0 + 2 ^ k * amk (2 ^ k) ds.length) hd1 (Or.inr rfl)
      have q2 := and_dig (k := k) (d := d') (g := 0) (y := vb (2 ^ k) ds) (z := amk (2 ^ k) ds.length) hd2 (Or.inl rfl)
      rw [if_neg (by omega), q2, if_pos rfl, hi] at q1
      exact q1
/-- the bits of a number -/
theorem bits_of (a : Nat) : ∀ (N i : Nat), vb 2 ((List.range N).map fun j => a / 2 ^ (i + j) % 2) = a / 2 ^ i % 2 ^ N := by
  intro N
  induction N with
  | zero => intro i; show 0 = a / 2 ^ i % 1; omega
  | succ N ih =>
    intro i
    have h1 : (List.range (N + 1)).map (fun j => a / 2 ^ (i + j) % 2) = (a / 2 ^ (i + 0) % 2) :: (List.range N).map (fun j => a / 2 ^ (i + 1 + j) % 2) := by
      rw [List.range_succ_eq_map, List.map_cons, List.map_map]
      congr 1
      apply List.map_congr_left
      intro j _
      show a / 2 ^ (i + (j + 1)) % 2 = a / 2 ^ (i + 1 + j) % 2
      rw [show i + (j + 1) = i + 1 + j by omega]
    rw [h1]
    show a / 2 ^ (i + 0) % 2 + 2 * vb 2 _ = _
    rw [ih (i + 1), Nat.add_zero, Nat.pow_succ 2 i, ← Nat.div_div_eq_div_mul, Nat.pow_succ 2 N, Nat.mul_comm (2 ^ N) 2, Nat.mod_mul]
theorem mbc_nI {a : Nat} (k : Nat) (hk : k ≤ 25) : mbc (nI a) k = nI (((List.range k).map fun j => a / 2 ^ j % 2).sum) := by
  induction k with
  | zero => rfl
  | succ k ih =>
    have h1 : (nI a >>> (nI k &&& 31)) &&& nI 1 = nI (a / 2 ^ k % 2) := by
      have hb : a.testBit k = decide (a / 2 ^ k % 2 = 1) := by rw [Nat.testBit_eq_decide_div_mod_eq]
      apply Int32.toBitVec_inj.mp
      apply BitVec.eq_of_getLsbD_eq
      intro i hi
      rw [Int32.toBitVec_and, BitVec.getLsbD_and, nI_bit _ hi, nI_bit _ hi]
      by_cases h0 : i = 0
      · subst h0
        rw [sh_bit _ (by omega) (by omega), nI_bit _ (by omega), Nat.add_zero, hb]
        have h2 : a / 2 ^ k % 2 = 0 ∨ a / 2 ^ k % 2 = 1 := by omega
        rcases h2 with h2 | h2 <;> rw [h2] <;> rfl
      · have h3 : (1 : Nat).testBit i = false := by
          rw [show (1 : Nat) = 2 ^ 0 from rfl, Nat.testBit_two_pow]; exact decide_eq_false (fun z => h0 z.symm)
        have h2 : a / 2 ^ k % 2 = 0 ∨ a / 2 ^ k % 2 = 1 := by omega
        rw [h3, Bool.and_false]
        rcases h2 with h2 | h2
        · rw [h2, Nat.zero_testBit]
        · rw [h2, h3]
    show mbc (nI a) k + ((nI a >>> (nI k &&& 31)) &&& nI 1) = _
    rw [ih (by omega), h1, nI_add, List.range_succ, List.map_append, List.sum_append]
    simp
set_option maxRecDepth 100000 in
set_option maxHeartbeats 4000000 in
theorem ones_nat (b0 b1 b2 b3 b4 b5 b6 b7 b8 b9 b10 b11 b12 b13 b14 b15 b16 b17 b18 b19 b20 b21 b22 b23 b24 : Nat) (h : ∀ d ∈ [b0, b1, b2, b3, b4, b5, b6, b7, b8, b9, b10, b11, b12, b13, b14, b15, b16, b17, b18, b19, b20, b21, b22, b23, b24], d < 2) :
    btc (nI (vb 2 [b0, b1, b2, b3, b4, b5, b6, b7, b8, b9, b10, b11, b12, b13, b14, b15, b16, b17, b18, b19, b20, b21, b22, b23, b24])) = nI ([b0, b1, b2, b3, b4, b5, b6, b7, b8, b9, b10, b11, b12, b13, b14, b15, b16, b17, b18, b19, b20, b21, b22, b23, b24].sum) := by
  simp only [List.mem_cons, List.not_mem_nil, or_false, forall_eq_or_imp, forall_eq] at h
  obtain ⟨h0, h1, h2, h3, h4, h5, h6, h7, h8, h9, h10, h11, h12, h13, h14, h15, h16, h17, h18, h19, h20, h21, h22, h23, h24⟩ := h
  have A2 : (1431655765 : Int32) = nI (amk (2 ^ 1) 32) := by decide +kernel
  have A4 : (858993459 : Int32) = nI (amk (2 ^ 2) 16) := by decide +kernel
  have A16 : (252645135 : Int32) = nI (amk (2 ^ 4) 8) := by decide +kernel
  have e1 : bo1 (nI (vb 2 [b0, b1, b2, b3, b4, b5, b6, b7, b8, b9, b10, b11, b12, b13, b14, b15, b16, b17, b18, b19, b20, b21, b22, b23, b24])) = nI (vb (2 ^ 2) [b0 + b1, b2 + b3, b4 + b5, b6 + b7, b8 + b9, b10 + b11, b12 + b13, b14 + b15, b16 + b17, b18 + b19, b20 + b21, b22 + b23, b24, 0, 0, 0]) := by
    unfold bo1
    rw [su_nI (by simp only [vb]; omega) (by decide +kernel), A2]
    have q : vb 2 [b0, b1, b2, b3, b4, b5, b6, b7, b8, b9, b10, b11, b12, b13, b14, b15, b16, b17, b18, b19, b20, b21, b22, b23, b24] / 2 ^ 1 = vb (2 ^ 1) [b1, b2, b3, b4, b5, b6, b7, b8, b9, b10, b11, b12, b13, b14, b15, b16, b17, b18, b19, b20, b21, b22, b23, b24, 0, 0, 0, 0, 0, 0, 0, 0] := by simp only [vb]; omega
    rw [q, nI_and, vb_and 1 (by decide) 32 _ rfl (by simp only [List.mem_cons, List.not_mem_nil, or_false, forall_eq_or_imp, forall_eq]; omega)]
    rw [pk_sub (by simp only [vb, evd]; omega)]
    congr 1
    simp only [vb, evd]
    omega
  have e2 : bo2 (nI (vb (2 ^ 2) [b0 + b1, b2 + b3, b4 + b5, b6 + b7, b8 + b9, b10 + b11, b12 + b13, b14 + b15, b16 + b17, b18 + b19, b20 + b21, b22 + b23, b24, 0, 0, 0])) = nI (vb (2 ^ 4) [b0 + b1 + b2 + b3, b4 + b5 + b6 + b7, b8 + b9 + b10 + b11, b12 + b13 + b14 + b15, b16 + b17 + b18 + b19, b20 + b21 + b22 + b23, b24, 0]) := by
    unfold bo2
    rw [su_nI (by simp only [vb]; omega) (by decide +kernel), A4]
    have q : vb (2 ^ 2) [b0 + b1, b2 + b3, b4 + b5, b6 + b7, b8 + b9, b10 + b11, b12 + b13, b14 + b15, b16 + b17, b18 + b19, b20 + b21, b22 + b23, b24, 0, 0, 0] / 2 ^ 2 = vb (2 ^ 2) [b2 + b3, b4 + b5, b6 + b7, b8 + b9, b10 + b11, b12 + b13, b14 + b15, b16 + b17, b18 + b19, b20 + b21, b22 + b23, b24, 0, 0, 0, 0] := by simp only [vb]; omega
    rw [q, nI_and, nI_and, vb_and 2 (by decide) 16 _ rfl (by simp only [List.mem_cons, List.not_mem_nil, or_false, forall_eq_or_imp, forall_eq]; omega), vb_and 2 (by decide) 16 _ rfl (by simp only [List.mem_cons, List.not_mem_nil, or_false, forall_eq_or_imp, forall_eq]; omega), nI_add]
    congr 1
    simp only [vb, evd]
    omega
  have e3 : bo3 (nI (vb (2 ^ 4) [b0 + b1 + b2 + b3, b4 + b5 + b6 + b7, b8 + b9 + b10 + b11, b12 + b13 + b14 + b15, b16 + b17 + b18 + b19, b20 + b21 + b22 + b23, b24, 0])) = nI (vb (2 ^ 8) [b0 + b1 + b2 + b3 + b4 + b5 + b6 + b7, b8 + b9 + b10 + b11 + b12 + b13 + b14 + b15, b16 + b17 + b18 + b19 + b20 + b21 + b22 + b23, b24]) := by
    unfold bo3
    rw [su_nI (by simp only [vb]; omega) (by decide +kernel), A16]
    have q : vb (2 ^ 4) [b0 + b1 + b2 + b3, b4 + b5 + b6 + b7, b8 + b9 + b10 + b11, b12 + b13 + b14 + b15, b16 + b17 + b18 + b19, b20 + b21 + b22 + b23, b24, 0] + vb (2 ^ 4) [b0 + b1 + b2 + b3, b4 + b5 + b6 + b7, b8 + b9 + b10 + b11, b12 + b13 + b14 + b15, b16 + b17 + b18 + b19, b20 + b21 + b22 + b23, b24, 0] / 2 ^ 4 = vb (2 ^ 4) [b0 + b1 + b2 + b3 + b4 + b5 + b6 + b7, b4 + b5 + b6 + b7 + b8 + b9 + b10 + b11, b8 + b9 + b10 + b11 + b12 + b13 + b14 + b15, b12 + b13 + b14 + b15 + b16 + b17 + b18 + b19, b16 + b17 + b18 + b19 + b20 + b21 + b22 + b23, b20 + b21 + b22 + b23 + b24, b24, 0] := by simp only [vb]; omega
    rw [nI_add, q, nI_and, vb_and 4 (by decide) 8 _ rfl (by simp only [List.mem_cons, List.not_mem_nil, or_false, forall_eq_or_imp, forall_eq]; omega)]
    congr 1
    simp only [vb, evd]
    omega
  have e4 : ∀ c0 c1 c2 c3 : Nat, c0 ≤ 8 → c1 ≤ 8 → c2 ≤ 8 → c3 ≤ 8 → bo5 (bo4 (nI (vb (2 ^ 8) [c0, c1, c2, c3]))) &&& nI 63 = nI (c0 + c1 + c2 + c3) := by
    intro c0 c1 c2 c3 k0 k1 k2 k3
    unfold bo5 bo4
    rw [su_nI (by simp only [vb]; omega) (by decide +kernel), nI_add]
    have q : vb (2 ^ 8) [c0, c1, c2, c3] + vb (2 ^ 8) [c0, c1, c2, c3] / 2 ^ 8 = vb (2 ^ 8) [c0 + c1, c1 + c2, c2 + c3, c3] := by simp only [vb]; omega
    rw [q, su_nI (by simp only [vb]; omega) (by decide +kernel), nI_add]
    have q2 : vb (2 ^ 8) [c0 + c1, c1 + c2, c2 + c3, c3] + vb (2 ^ 8) [c0 + c1, c1 + c2, c2 + c3, c3] / 2 ^ 16 = vb (2 ^ 8) [c0 + c1 + (c2 + c3), c1 + c2 + c3, c2 + c3, c3] := by simp only [vb]; omega
    rw [q2, nI_and]
    congr 1
    rw [show (63 : Nat) = 2 ^ 6 - 1 from rfl, Nat.and_two_pow_sub_one_eq_mod]
    simp only [vb]
    omega
  rw [btc_bo, e1, e2, e3, e4 _ _ _ _ (by omega) (by omega) (by omega) (by omega)]
  congr 1
  simp only [List.sum_cons, List.sum_nil]
  omega
theorem BTC {a : Nat} (h : a < 2 ^ 25) : btc (nI a) = mbc (nI a) 25 := by
  rw [mbc_nI 25 (Nat.le_refl _)]
  have h1 : a = vb 2 ((List.range 25).map fun j => a / 2 ^ (0 + j) % 2) := by
    rw [bits_of a 25 0, Nat.pow_zero, Nat.div_one, Nat.mod_eq_of_lt h]
  have h2 : ∀ j, 0 + j = j := Nat.zero_add
  simp only [h2] at h1
  have h3 : ∀ d ∈ (List.range 25).map (fun j => a / 2 ^ j % 2), d < 2 := by
    intro d hd
    obtain ⟨j, -, rfl⟩ := List.mem_map.mp hd
    exact Nat.mod_lt _ (by decide)
  have h4 : (List.range 25).map (fun j => a / 2 ^ j % 2) = [a / 2 ^ 0 % 2, a / 2 ^ 1 % 2, a / 2 ^ 2 % 2, a / 2 ^ 3 % 2, a / 2 ^ 4 % 2, a / 2 ^ 5 % 2, a / 2 ^ 6 % 2, a / 2 ^ 7 % 2, a / 2 ^ 8 % 2, a / 2 ^ 9 % 2, a / 2 ^ 10 % 2, a / 2 ^ 11 % 2, a / 2 ^ 12 % 2, a / 2 ^ 13 % 2, a / 2 ^ 14 % 2, a / 2 ^ 15 % 2, a / 2 ^ 16 % 2, a / 2 ^ 17 % 2, a / 2 ^ 18 % 2, a / 2 ^ 19 % 2, a / 2 ^ 20 % 2, a / 2 ^ 21 % 2, a / 2 ^ 22 % 2, a / 2 ^ 23 % 2, a / 2 ^ 24 % 2] := rfl
  rw [h4] at h3
  have q := ones_nat _ _ _ _ _ _ _ _ _ _ _ _ _ _ _ _ _ _ _ _ _ _ _ _ _ h3
  rw [h4] at h1
  rw [← h1] at q
  rw [h4]
  exact q
section EQK
variable {rg : Nat → Bool} {pl : Nat → Nat} {V M V' M' : fV} {f n : Nat}
theorem EQ_kept {a0 b0 j : Nat} (h : INV rg pl V M f n) (ha : a0 < 25) (hb : b0 < 20) (hj : j < 9) : dpt V (dx rg a0 b0) j = mkp M (20 * a0 + b0) j := by
  have hjj : j = 0 ∨ j = 1 ∨ j = 2 ∨ j = 3 ∨ j = 4 ∨ j = 5 ∨ j = 6 ∨ j = 7 ∨ j = 8 := by omega
  have key : ∀ d a : Nat, V 30 d = M 4 a → V 31 d = M 5 a → sO (V 32 d) = (if 0 < M 5 a then M 6 a else (-1)) → dO (V 32 d) = (if 0 < M 5 a then M 7 a else (-1)) → V 33 d = M 8 a → V 34 d = M 3 a → V 38 d = M 14 a → V 39 d = M 15 a → btc (V 40 d) = mbc (M 16 a) 25 → dpt V d j = mkp M a j := by
    intro d a k0 k1 k2 k3 k4 k5 k6 k7 k8
    unfold dpt mkp
    rw [k0, k1, k2, k3, k4, k5, k6, k7, k8]
  cases hr : rg b0 with
  | true =>
    have e1 : dx rg a0 b0 = 20 * a0 + b0 := if_pos hr
    obtain ⟨dc, pr, ac, g, ⟨q1, q2, q3, q4, q5, q6⟩, hA, hK⟩ := h.2.1.1 a0 b0 ha hb hr
    rw [e1]
    have h23 : sO (V 32 (20 * a0 + b0)) = (if 0 < M 5 (20 * a0 + b0) then M 6 (20 * a0 + b0) else (-1)) ∧ dO (V 32 (20 * a0 + b0)) = (if 0 < M 5 (20 * a0 + b0) then M 7 (20 * a0 + b0) else (-1)) := by
      rcases q6 with ⟨z, q⟩ | ⟨z, q⟩
      · have h5 : ¬ (0 : Int32) < M 5 (20 * a0 + b0) := by rw [q4.2.2.1, z]; decide +kernel
        rw [if_neg h5, if_neg h5, q]; exact m1_sd
      · have h5 : (0 : Int32) < M 5 (20 * a0 + b0) := by rw [q4.2.2.1, ← nI_0]; exact nI_lt z (by omega)
        rw [if_pos h5, if_pos h5]; exact PR2_sd q
    refine key _ _ (q3.2.1.trans q4.2.1.symm) (q3.2.2.1.trans q4.2.2.1.symm) h23.1 h23.2 (q3.2.2.2.trans q4.2.2.2.symm) (q3.1.trans q4.1.symm) hA.2.1 hA.2.2.1 ?_
    rw [hA.2.2.2]
    rcases hK with q | q
    · rw [q.2.2.2]; exact BTC (by decide)
    · obtain ⟨an, i1, i2⟩ := q.2.2.1
      rw [i2]; exact BTC i1
  | false =>
    have e1 : dx rg a0 b0 = 500 := if_neg (by rw [hr]; decide)
    obtain ⟨v34, v30, v31, v32, v33, v38, v39, v40⟩ := h.2.1.2.2
    obtain ⟨⟨m3, m4, m5, m8⟩, m11, m14, m15, m16⟩ := h.2.1.2.1 a0 b0 ha hb hr
    rw [e1]
    have h5 : ¬ (0 : Int32) < M 5 (20 * a0 + b0) := by rw [m5]; decide +kernel
    refine key _ _ (v30.trans m4.symm) (v31.trans m5.symm) ?_ ?_ (v33.trans m8.symm) (v34.trans m3.symm) (v38.trans m14.symm) (v39.trans m15.symm) ?_
    · rw [if_neg h5, v32]; exact m1_sd.1
    · rw [if_neg h5, v32]; exact m1_sd.2
    · rw [v40, m16]; exact BTC (by decide)
end EQK
