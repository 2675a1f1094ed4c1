/-! ONES: the class's count of bits is the model's. -/
def su (k : Int32) (j : Int32) : Int32 := (k.toUInt32 >>> ((j : Int32).toUInt32 &&& Int32.toUInt32 31)).toInt32
def bo1 (k : Int32) : Int32 := k - (su k (nI 1) &&& 1431655765)
def bo2 (k : Int32) : Int32 := (k &&& 858993459) + (su k (nI 2) &&& 858993459)
def bo3 (k : Int32) : Int32 := (k + su k (nI 4)) &&& 252645135
def bo4 (k : Int32) : Int32 := k + su k (nI 8)
def bo5 (k : Int32) : Int32 := k + su k (nI 16)
theorem btc_bo (k : Int32) : btc k = bo5 (bo4 (bo3 (bo2 (bo1 k)))) &&& (nI 63) := rfl
theorem nI_and (a b : Nat) : nI a &&& nI b = nI (a &&& b) := by
  apply Int32.toBitVec_inj.mp
  apply BitVec.eq_of_getLsbD_eq
  intro i hi
  rw [Int32.toBitVec_and, BitVec.getLsbD_and, nI_bit _ hi, nI_bit _ hi, nI_bit _ hi, Nat.testBit_and]
theorem su_nI {a j : Nat} (ha : a < 2 ^ 32) (hj : ((nI j).toUInt32 &&& Int32.toUInt32 31).toNat % 32 = j) : su (nI a) (nI j) = nI (a / 2 ^ j) := by
  have h1 : (nI a).toUInt32 = UInt32.ofNat a := rfl
  have h2 : a / 2 ^ j < 2 ^ 32 := Nat.lt_of_le_of_lt (Nat.div_le_self _ _) ha
  have h3 : UInt32.ofNat a >>> ((nI j).toUInt32 &&& Int32.toUInt32 31) = UInt32.ofNat (a / 2 ^ j) := by
    apply UInt32.toNat_inj.mp
    rw [UInt32.toNat_shiftRight, hj, UInt32.toNat_ofNat_of_lt' ha, UInt32.toNat_ofNat_of_lt' h2, Nat.shiftRight_eq_div_pow]
  unfold su
  rw [h1, h3]
  rfl
/-- digits -/
def vb (B : Nat) : List Nat → Nat
  | [] => 0
  | d :: ds => d + B * vb B ds
def evd : List Nat → List Nat
  | [] => []
  | [d] => [d]
  | d :: _ :: ds => d :: 0 :: evd ds
def amk (B : Nat) : Nat → Nat
  | 0 => 0
  | 1 => B - 1
  | n + 2 => (B - 1) + B * (0 + B * amk B n)
theorem and_dig {k d g y z : Nat} (hd : d < 2 ^ k) (hg : g = 0 ∨ g = 2 ^ k - 1) : (d + 2 ^ k * y) &&& (g + 2 ^ k * z) = (if g = 0 then 0 else d) + 2 ^ k * (y &&& z) := by
  have hpos : 0 < 2 ^ k := Nat.two_pow_pos k
  have hgl : g < 2 ^ k := by omega
  have hr : (if g = 0 then 0 else d) < 2 ^ k := by split <;> omega
  apply Nat.eq_of_testBit_eq
  intro i
  rw [Nat.testBit_and, Nat.add_comm d, Nat.add_comm g, Nat.add_comm (if g = 0 then 0 else d), Nat.testBit_two_pow_mul_add _ hd, Nat.testBit_two_pow_mul_add _ hgl, Nat.testBit_two_pow_mul_add _ hr]
  by_cases hi : i < k
  · rw [if_pos hi, if_pos hi, if_pos hi]
    by_cases h0 : g = 0
    · rw [if_pos h0, h0, Nat.zero_testBit, Bool.and_false]
    · rw [if_neg h0]
      have h1 : g = 2 ^ k - 1 := by omega
      rw [h1, Nat.testBit_two_pow_sub_one, decide_eq_true hi, Bool.and_true]
  · rw [if_neg hi, if_neg hi, if_neg hi, Nat.testBit_and]
theorem and_dB {B k d g y z : Nat} (hB : B = 2 ^ k) (hd : d < B) (hg : g = 0 ∨ g = B - 1) : (d + B * y) &&& (g + B * z) = (if g = 0 then 0 else d) + B * (y &&& z) := by
  subst hB
  exact and_dig hd hg
def pr2 : List Nat → List Nat
  | [] => []
  | [d] => [d]
  | a :: b :: ds => (a + b) :: pr2 ds
theorem sw1 : ∀ (n : Nat) (ds : List Nat), ds.length = 2 * n → (∀ d ∈ ds, d < 2) → vb 2 ds - (vb 2 ds / 2 &&& amk 2 (2 * n)) = vb 4 (pr2 ds) ∧ (vb 2 ds / 2 &&& amk 2 (2 * n)) ≤ vb 2 ds := by
  intro n
  induction n with
  | zero =>
    intro ds hl _
    cases ds with
    | nil => exact ⟨rfl, Nat.le_refl _⟩
    | cons a ds => simp at hl
  | succ n ih =>
    intro ds hl hd
    match ds, hl, hd with
    | a :: b :: ds, hl, hd =>
      have ha := hd a (by simp)
      have hb := hd b (by simp)
      obtain ⟨i1, i2⟩ := ih ds (by simp at hl; omega) (fun d h => hd d (by simp [h]))
      have e1 : vb 2 (a :: b :: ds) = a + 2 * (b + 2 * vb 2 ds) := rfl
      have e4 : vb 4 (pr2 (a :: b :: ds)) = (a + b) + 4 * vb 4 (pr2 ds) := rfl
      have e3 : amk 2 (2 * (n + 1)) = 1 + 2 * (0 + 2 * amk 2 (2 * n)) := rfl
      rw [e1, e4, e3, ← i1]
      generalize vb 2 ds = y at i2 ⊢
      generalize amk 2 (2 * n) = m at i2 ⊢
      have e2 : (a + 2 * (b + 2 * y)) / 2 = b + 2 * y := by omega
      have f1 := and_dB (B := 2) (k := 1) (d := b) (g := 1) (y := y) (z := 0 + 2 * m) rfl hb (Or.inr rfl)
      have f2 := and_dB (B := 2) (k := 1) (d := y % 2) (g := 0) (y := y / 2) (z := m) rfl (by omega) (Or.inl rfl)
      rw [show y % 2 + 2 * (y / 2) = y by omega, if_pos rfl] at f2
      rw [if_neg (by decide), f2] at f1
      rw [e2, f1]
      generalize (y / 2 &&& m) = w at i2 ⊢
      omega
theorem sw2 : ∀ (n : Nat) (ds : List Nat), ds.length = 2 * n → (∀ d ∈ ds, d < 4) → (vb 4 ds &&& amk 4 (2 * n)) + (vb 4 ds / 4 &&& amk 4 (2 * n)) = vb 16 (pr2 ds) := by
  intro n
  induction n with
  | zero =>
    intro ds hl _
    cases ds with
    | nil => rfl
    | cons a ds => simp at hl
  | succ n ih =>
    intro ds hl hd
    match ds, hl, hd with
    | a :: b :: ds, hl, hd =>
      have ha := hd a (by simp)
      have hb := hd b (by simp)
      have i1 := ih ds (by simp at hl; omega) (fun d h => hd d (by simp [h]))
      have e1 : vb 4 (a :: b :: ds) = a + 4 * (b + 4 * vb 4 ds) := rfl
      have e4 : vb 16 (pr2 (a :: b :: ds)) = (a + b) + 16 * vb 16 (pr2 ds) := rfl
      have e3 : amk 4 (2 * (n + 1)) = 3 + 4 * (0 + 4 * amk 4 (2 * n)) := rfl
      rw [e1, e4, e3, ← i1]
      generalize vb 4 ds = y
      generalize amk 4 (2 * n) = m
      have e2 : (a + 4 * (b + 4 * y)) / 4 = b + 4 * y := by omega
      have f1 := and_dB (B := 4) (k := 2) (d := b) (g := 3) (y := y) (z := 0 + 4 * m) rfl hb (Or.inr rfl)
      have f2 := and_dB (B := 4) (k := 2) (d := y % 4) (g := 0) (y := y / 4) (z := m) rfl (by omega) (Or.inl rfl)
      rw [show y % 4 + 4 * (y / 4) = y by omega, if_pos rfl] at f2
      rw [if_neg (by decide), f2] at f1
      have f3 := and_dB (B := 4) (k := 2) (d := a) (g := 3) (y := b + 4 * y) (z := 0 + 4 * m) rfl ha (Or.inr rfl)
      have f4 := and_dB (B := 4) (k := 2) (d := b) (g := 0) (y := y) (z := m) rfl hb (Or.inl rfl)
      rw [if_pos rfl] at f4
      rw [if_neg (by decide), f4] at f3
      rw [e2, f1, f3]
      generalize (y / 4 &&& m) = w
      generalize (y &&& m) = v
      omega
theorem sw3 : ∀ (n : Nat) (ds : List Nat), ds.length = 2 * n → (∀ d ∈ ds, d ≤ 4) → (vb 16 ds + vb 16 ds / 16) &&& amk 16 (2 * n) = vb 256 (pr2 ds) ∧ vb 16 ds % 16 ≤ 4 := by
  intro n
  induction n with
  | zero =>
    intro ds hl _
    cases ds with
    | nil => exact ⟨rfl, by decide⟩
    | cons a ds => simp at hl
  | succ n ih =>
    intro ds hl hd
    match ds, hl, hd with
    | a :: b :: ds, hl, hd =>
      have ha := hd a (by simp)
      have hb := hd b (by simp)
      obtain ⟨i1, i2⟩ := ih ds (by simp at hl; omega) (fun d h => hd d (by simp [h]))
      have e1 : vb 16 (a :: b :: ds) = a + 16 * (b + 16 * vb 16 ds) := rfl
      have e4 : vb 256 (pr2 (a :: b :: ds)) = (a + b) + 256 * vb 256 (pr2 ds) := rfl
      have e3 : amk 16 (2 * (n + 1)) = 15 + 16 * (0 + 16 * amk 16 (2 * n)) := rfl
      rw [e1, e4, e3, ← i1]
      generalize vb 16 ds = y at i2 ⊢
      generalize amk 16 (2 * n) = m
      have e2 : (a + 16 * (b + 16 * y)) + (a + 16 * (b + 16 * y)) / 16 = (a + b) + 16 * ((b + y % 16) + 16 * (y + y / 16)) := by omega
      have f1 := and_dB (B := 16) (k := 4) (d := a + b) (g := 15) (y := (b + y % 16) + 16 * (y + y / 16)) (z := 0 + 16 * m) rfl (by omega) (Or.inr rfl)
      have f2 := and_dB (B := 16) (k := 4) (d := b + y % 16) (g := 0) (y := y + y / 16) (z := m) rfl (by omega) (Or.inl rfl)
      rw [if_pos rfl] at f2
      rw [if_neg (by decide), f2] at f1
      rw [e2, f1]
      refine ⟨?_, by omega⟩
      generalize ((y + y / 16) &&& m) = w
      omega
theorem vb_lt {B : Nat} (hB : 0 < B) : ∀ (ds : List Nat), (∀ d ∈ ds, d < B) → vb B ds < B ^ ds.length := by
  intro ds
  induction ds with
  | nil => intro _; exact Nat.one_pos
  | cons a ds ih =>
    intro h
    have h1 := h a (by simp)
    have h2 := ih (fun d hd => h d (by simp [hd]))
    show a + B * vb B ds < B ^ (ds.length + 1)
    rw [Nat.pow_succ]
    have h3 : B * (vb B ds + 1) ≤ B * B ^ ds.length := Nat.mul_le_mul_left _ h2
    rw [Nat.mul_add, Nat.mul_one, Nat.mul_comm B (B ^ ds.length)] at h3
    omega
/-- the bits of a number -/
theorem bits_of (a : Nat) : ∀ (N i : Nat), vb 2 ((List.range N).map fun j => a / 2 ^ (i + j) % 2) = a / 2 ^ i % 2 ^ N := by
  intro N
  induction N with
  | zero => intro i; show 0 = a / 2 ^ i % 1; omega
  | succ N ih =>
    intro i
    have h1 : (List.range (N + 1)).map (fun j => a / 2 ^ (i + j) % 2) = (a / 2 ^ (i + 0) % 2) :: (List.range N).map (fun j => a / 2 ^ (i + 1 + j) % 2) := by
      rw [List.range_succ_eq_map, List.map_cons, List.map_map]
      congr 1
      apply List.map_congr_left
      intro j _
      show a / 2 ^ (i + (j + 1)) % 2 = a / 2 ^ (i + 1 + j) % 2
      rw [show i + (j + 1) = i + 1 + j by omega]
    rw [h1]
    show a / 2 ^ (i + 0) % 2 + 2 * vb 2 _ = _
    rw [ih (i + 1), Nat.add_zero, Nat.pow_succ 2 i, ← Nat.div_div_eq_div_mul, Nat.pow_succ 2 N, Nat.mul_comm (2 ^ N) 2, Nat.mod_mul]
theorem mbc_nI {a : Nat} (k : Nat) (hk : k ≤ 25) : mbc (nI a) k = nI (((List.range k).map fun j => a / 2 ^ j % 2).sum) := by
  induction k with
  | zero => rfl
  | succ k ih =>
    have h1 : (nI a >>> (nI k &&& 31)) &&& nI 1 = nI (a / 2 ^ k % 2) := by
      have hb : a.testBit k = decide (a / 2 ^ k % 2 = 1) := by rw [Nat.testBit_eq_decide_div_mod_eq]
      apply Int32.toBitVec_inj.mp
      apply BitVec.eq_of_getLsbD_eq
      intro i hi
      rw [Int32.toBitVec_and, BitVec.getLsbD_and, nI_bit _ hi, nI_bit _ hi]
      by_cases h0 : i = 0
      · subst h0
        rw [sh_bit _ (by omega) (by omega), nI_bit _ (by omega), Nat.add_zero, hb]
        have h2 : a / 2 ^ k % 2 = 0 ∨ a / 2 ^ k % 2 = 1 := by omega
        rcases h2 with h2 | h2 <;> rw [h2] <;> rfl
      · have h3 : (1 : Nat).testBit i = false := by
          rw [show (1 : Nat) = 2 ^ 0 from rfl, Nat.testBit_two_pow]; exact decide_eq_false (fun z => h0 z.symm)
        have h2 : a / 2 ^ k % 2 = 0 ∨ a / 2 ^ k % 2 = 1 := by omega
        rw [h3, Bool.and_false]
        rcases h2 with h2 | h2
        · rw [h2, Nat.zero_testBit]
        · rw [h2, h3]
    show mbc (nI a) k + ((nI a >>> (nI k &&& 31)) &&& nI 1) = _
    rw [ih (by omega), h1, nI_add, List.range_succ, List.map_append, List.sum_append]
    simp
theorem pr2_le {c : Nat} : ∀ (n : Nat) (ds : List Nat), ds.length = 2 * n → (∀ d ∈ ds, d ≤ c) → (∀ d ∈ pr2 ds, d ≤ 2 * c) ∧ (pr2 ds).length = n := by
  intro n
  induction n with
  | zero =>
    intro ds hl _
    cases ds with
    | nil => exact ⟨(fun d h => by cases h), rfl⟩
    | cons a ds => simp at hl
  | succ n ih =>
    intro ds hl hd
    match ds, hl, hd with
    | a :: b :: ds, hl, hd =>
      have ha := hd a (by simp)
      have hb := hd b (by simp)
      obtain ⟨i1, i2⟩ := ih ds (by simp at hl; omega) (fun d h => hd d (by simp [h]))
      refine ⟨fun d h => ?_, by show (pr2 ds).length + 1 = n + 1; rw [i2]⟩
      rcases List.mem_cons.mp h with h | h
      · omega
      · exact i1 d h
theorem pr2_sum : ∀ (n : Nat) (ds : List Nat), ds.length = 2 * n → (pr2 ds).sum = ds.sum := by
  intro n
  induction n with
  | zero =>
    intro ds hl
    cases ds with
    | nil => rfl
    | cons a ds => simp at hl
  | succ n ih =>
    intro ds hl
    match ds, hl with
    | a :: b :: ds, hl =>
      show ((a + b) :: pr2 ds).sum = (a :: b :: ds).sum
      rw [List.sum_cons, List.sum_cons, List.sum_cons, ih ds (by simp at hl; omega)]
      omega
theorem ones_e4 (c0 c1 c2 c3 : Nat) (k0 : c0 ≤ 8) (k1 : c1 ≤ 8) (k2 : c2 ≤ 8) (k3 : c3 ≤ 8) : bo5 (bo4 (nI (vb 256 [c0, c1, c2, c3]))) &&& nI 63 = nI (c0 + c1 + c2 + c3) := by
  have e0 : vb 256 [c0, c1, c2, c3] = c0 + 256 * c1 + 65536 * c2 + 16777216 * c3 := by
    show c0 + 256 * (c1 + 256 * (c2 + 256 * (c3 + 256 * 0))) = _
    omega
  rw [e0]
  unfold bo5 bo4
  rw [su_nI (by omega) (by decide +kernel), nI_add]
  have q : c0 + 256 * c1 + 65536 * c2 + 16777216 * c3 + (c0 + 256 * c1 + 65536 * c2 + 16777216 * c3) / 2 ^ 8 = (c0 + c1) + 256 * (c1 + c2) + 65536 * (c2 + c3) + 16777216 * c3 := by omega
  rw [q, su_nI (by omega) (by decide +kernel), nI_add]
  have q2 : (c0 + c1) + 256 * (c1 + c2) + 65536 * (c2 + c3) + 16777216 * c3 + ((c0 + c1) + 256 * (c1 + c2) + 65536 * (c2 + c3) + 16777216 * c3) / 2 ^ 16 = (c0 + c1 + (c2 + c3)) + 256 * (c1 + c2 + c3) + 65536 * (c2 + c3) + 16777216 * c3 := by omega
  rw [q2, nI_and]
  congr 1
  rw [show (63 : Nat) = 2 ^ 6 - 1 from rfl, Nat.and_two_pow_sub_one_eq_mod]
  omega
theorem ones_list {ds : List Nat} (hl : ds.length = 32) (hd : ∀ d ∈ ds, d < 2) : btc (nI (vb 2 ds)) = nI ds.sum := by
  have A2 : (1431655765 : Int32) = nI (amk 2 (2 * 16)) := by decide +kernel
  have A4 : (858993459 : Int32) = nI (amk 4 (2 * 8)) := by decide +kernel
  have A16 : (252645135 : Int32) = nI (amk 16 (2 * 4)) := by decide +kernel
  obtain ⟨p1, p2⟩ := pr2_le (c := 1) 16 ds hl (fun d h => by have := hd d h; omega)
  obtain ⟨p3, p4⟩ := pr2_le (c := 2) 8 (pr2 ds) p2 p1
  obtain ⟨p5, p6⟩ := pr2_le (c := 4) 4 (pr2 (pr2 ds)) p4 p3
  have l1 : vb 2 ds < 2 ^ 32 := by have := vb_lt (B := 2) (by decide) ds hd; rw [hl] at this; exact this
  have l2 : vb 4 (pr2 ds) < 2 ^ 32 := by
    have := vb_lt (B := 4) (by decide) (pr2 ds) (fun d h => by have := p1 d h; omega)
    rw [p2] at this
    exact this
  have l3 : vb 16 (pr2 (pr2 ds)) < 2 ^ 32 := by
    have := vb_lt (B := 16) (by decide) (pr2 (pr2 ds)) (fun d h => by have := p3 d h; omega)
    rw [p4] at this
    exact this
  obtain ⟨s1, s2⟩ := sw1 16 ds hl hd
  have s3 := sw2 8 (pr2 ds) p2 (fun d h => by have := p1 d h; omega)
  obtain ⟨s4, -⟩ := sw3 4 (pr2 (pr2 ds)) p4 (fun d h => by have := p3 d h; omega)
  have e1 : bo1 (nI (vb 2 ds)) = nI (vb 4 (pr2 ds)) := by
    unfold bo1
    rw [su_nI l1 (by decide +kernel), A2, nI_and, Nat.pow_one, pk_sub s2, s1]
  have e2 : bo2 (nI (vb 4 (pr2 ds))) = nI (vb 16 (pr2 (pr2 ds))) := by
    unfold bo2
    rw [su_nI l2 (by decide +kernel), A4, nI_and, nI_and, nI_add, show (2 : Nat) ^ 2 = 4 from rfl, s3]
  have e3 : bo3 (nI (vb 16 (pr2 (pr2 ds)))) = nI (vb 256 (pr2 (pr2 (pr2 ds)))) := by
    unfold bo3
    rw [su_nI l3 (by decide +kernel), A16, nI_add, nI_and, show (2 : Nat) ^ 4 = 16 from rfl, s4]
  rw [btc_bo, e1, e2, e3]
  have hs : (pr2 (pr2 (pr2 ds))).sum = ds.sum := by rw [pr2_sum 4 _ p4, pr2_sum 8 _ p2, pr2_sum 16 _ hl]
  generalize pr2 (pr2 (pr2 ds)) = L at p5 p6 hs
  match L, p5, p6, hs with
  | [c0, c1, c2, c3], p5, p6, hs =>
    rw [ones_e4 c0 c1 c2 c3 (p5 c0 (by simp)) (p5 c1 (by simp)) (p5 c2 (by simp)) (p5 c3 (by simp)), ← hs]
    congr 1
    simp only [List.sum_cons, List.sum_nil]
    omega
theorem BTC {a : Nat} (h : a < 2 ^ 25) : btc (nI a) = mbc (nI a) 25 := by
  rw [mbc_nI 25 (Nat.le_refl _)]
  have h1 : vb 2 ((List.range 32).map fun j => a / 2 ^ (0 + j) % 2) = a := by
    rw [bits_of a 32 0, Nat.pow_zero, Nat.div_one, Nat.mod_eq_of_lt (Nat.lt_trans h (by decide))]
  have h2 : (fun j => a / 2 ^ (0 + j) % 2) = fun j => a / 2 ^ j % 2 := funext fun j => by rw [Nat.zero_add]
  rw [h2] at h1
  have q := ones_list (ds := (List.range 32).map fun j => a / 2 ^ j % 2) (by rw [List.length_map, List.length_range]) (fun d hd => by
    obtain ⟨j, -, rfl⟩ := List.mem_map.mp hd
    exact Nat.mod_lt _ (by decide))
  rw [h1] at q
  rw [q]
  have hz : ∀ j, 25 ≤ j → a / 2 ^ j % 2 = 0 := fun j hj => by
    rw [Nat.div_eq_of_lt (Nat.lt_of_lt_of_le h (Nat.pow_le_pow_right (by decide) hj))]
  have hr : List.range 32 = List.range 25 ++ [25, 26, 27, 28, 29, 30, 31] := by decide
  rw [hr, List.map_append, List.sum_append]
  simp only [List.map_cons, List.map_nil, List.sum_cons, List.sum_nil, hz 25 (by decide), hz 26 (by decide), hz 27 (by decide), hz 28 (by decide), hz 29 (by decide), hz 30 (by decide), hz 31 (by decide), Nat.add_zero]
section EQK
variable {rg : Nat → Bool} {pl : Nat → Nat} {V M V' M' : fV} {f n : Nat}
theorem EQ_kept {a0 b0 j : Nat} (h : INV rg pl V M f n) (ha : a0 < 25) (hb : b0 < 20) (hj : j < 9) : dpt V (dx rg a0 b0) j = mkp M (20 * a0 + b0) j := by
  have hjj : j = 0 ∨ j = 1 ∨ j = 2 ∨ j = 3 ∨ j = 4 ∨ j = 5 ∨ j = 6 ∨ j = 7 ∨ j = 8 := by omega
  have key : ∀ d a : Nat, V 30 d = M 4 a → V 31 d = M 5 a → sO (V 32 d) = (if 0 < M 5 a then M 6 a else (-1)) → dO (V 32 d) = (if 0 < M 5 a then M 7 a else (-1)) → V 33 d = M 8 a → V 34 d = M 3 a → V 38 d = M 14 a → V 39 d = M 15 a → btc (V 40 d) = mbc (M 16 a) 25 → dpt V d j = mkp M a j := by
    intro d a k0 k1 k2 k3 k4 k5 k6 k7 k8
    unfold dpt mkp
    rw [k0, k1, k2, k3, k4, k5, k6, k7, k8]
  cases hr : rg b0 with
  | true =>
    have e1 : dx rg a0 b0 = 20 * a0 + b0 := if_pos hr
    obtain ⟨dc, pr, ac, g, ⟨q1, q2, q3, q4, q5, q6⟩, hA, hK⟩ := h.2.1.1 a0 b0 ha hb hr
    rw [e1]
    have h23 : sO (V 32 (20 * a0 + b0)) = (if 0 < M 5 (20 * a0 + b0) then M 6 (20 * a0 + b0) else (-1)) ∧ dO (V 32 (20 * a0 + b0)) = (if 0 < M 5 (20 * a0 + b0) then M 7 (20 * a0 + b0) else (-1)) := by
      rcases q6 with ⟨z, q⟩ | ⟨z, q⟩
      · have h5 : ¬ (0 : Int32) < M 5 (20 * a0 + b0) := by rw [q4.2.2.1, z]; decide +kernel
        rw [if_neg h5, if_neg h5, q]; exact m1_sd
      · have h5 : (0 : Int32) < M 5 (20 * a0 + b0) := by rw [q4.2.2.1, ← nI_0]; exact nI_lt z (by omega)
        rw [if_pos h5, if_pos h5]; exact PR2_sd q
    refine key _ _ (q3.2.1.trans q4.2.1.symm) (q3.2.2.1.trans q4.2.2.1.symm) h23.1 h23.2 (q3.2.2.2.trans q4.2.2.2.symm) (q3.1.trans q4.1.symm) hA.2.1 hA.2.2.1 ?_
    rw [hA.2.2.2]
    rcases hK with q | q
    · rw [q.2.2.2]; exact BTC (by decide)
    · obtain ⟨an, i1, i2⟩ := q.2.2.1
      rw [i2]; exact BTC i1
  | false =>
    have e1 : dx rg a0 b0 = 500 := if_neg (by rw [hr]; decide)
    obtain ⟨v34, v30, v31, v32, v33, v38, v39, v40⟩ := h.2.1.2.2
    obtain ⟨⟨m3, m4, m5, m8⟩, m11, m14, m15, m16⟩ := h.2.1.2.1 a0 b0 ha hb hr
    rw [e1]
    have h5 : ¬ (0 : Int32) < M 5 (20 * a0 + b0) := by rw [m5]; decide +kernel
    refine key _ _ (v30.trans m4.symm) (v31.trans m5.symm) ?_ ?_ (v33.trans m8.symm) (v34.trans m3.symm) (v38.trans m14.symm) (v39.trans m15.symm) ?_
    · rw [if_neg h5, v32]; exact m1_sd.1
    · rw [if_neg h5, v32]; exact m1_sd.2
    · rw [v40, m16]; exact BTC (by decide)
end EQK
