/-! THE FLAT STATE: one table of numbers for class and model; roles (kind, index) and their addresses; the store as the table gives it. -/
abbrev fV : Type := Nat → Nat → Int32
def mu (V : fV) (k i : Nat) (v : Int32) : fV := fun k' i' => if k' = k ∧ i' = i then v else V k' i'
theorem mu_s {V : fV} {k i : Nat} {v : Int32} : mu V k i v k i = v := if_pos ⟨rfl, rfl⟩
theorem mu_o {V : fV} {k i k' i' : Nat} {v : Int32} (h : ¬ (k' = k ∧ i' = i)) : mu V k i v k' i' = V k' i' := if_neg h
theorem mu_k {V : fV} {k i k' i' : Nat} {v : Int32} (h : k' ≠ k) : mu V k i v k' i' = V k' i' := if_neg (fun q => h q.1)
theorem mu_i {V : fV} {k i k' i' : Nat} {v : Int32} (h : i' ≠ i) : mu V k i v k' i' = V k' i' := if_neg (fun q => h q.2)
theorem mu_kr {V : fV} {k i k' : Nat} {v : Int32} (h : k' ≠ k) : mu V k i v k' = V k' := funext fun _ => mu_k h
theorem mu_row {V : fV} {k i : Nat} {v : Int32} : mu V k i v k = upd (V k) i v := by
  funext q
  by_cases h : q = i
  · subst h; rw [mu_s, pk_us]
  · rw [mu_i h, pk_un h]
theorem mu_same {V : fV} {k i : Nat} : mu V k i (V k i) = V := by
  funext k' i'
  by_cases h : k' = k ∧ i' = i
  · obtain ⟨rfl, rfl⟩ := h; rw [mu_s]
  · rw [mu_o h]
/-- the model's arrays: class and length -/
def ak (j : Nat) : Nat := if j = 2 then 2 else 0
def as_ (j : Nat) : Nat := if j ≤ 1 then 20 else if j = 2 then 25 else if j = 9 then 6000 else if j = 10 then 6000 else if j = 21 then 3400 else if j = 23 then 34 else 500
/-- desks that stand: the one of no prescription, and those of registered ones -/
def dk (rg : Nat → Bool) (d : Nat) : Prop := d = 500 ∨ d < 500 ∧ rg (d % 20) = true
def Lv (rg : Nat → Bool) (kd i : Nat) : Prop :=
  (kd ≤ 3 ∧ i = 0) ∨ (4 ≤ kd ∧ kd ≤ 6 ∧ i < 102) ∨ ((kd = 7 ∨ kd = 8) ∧ i < 20 ∧ rg i = true) ∨ (9 ≤ kd ∧ kd ≤ 12 ∧ dk rg i) ∨ (kd = 13 ∧ i = 0) ∨ (kd = 14 ∧ i < 24 ∧ i ≠ 22) ∨ (kd = 15 ∧ i = 0)
theorem LvG {rg : Nat → Bool} {kd : Nat} (h : kd ≤ 3) : Lv rg kd 0 := Or.inl ⟨h, rfl⟩
theorem LvT {rg : Nat → Bool} {kd i : Nat} (h1 : 4 ≤ kd) (h2 : kd ≤ 6) (h : i < 102) : Lv rg kd i := Or.inr (Or.inl ⟨h1, h2, h⟩)
theorem LvP {rg : Nat → Bool} {kd i : Nat} (h1 : kd = 7 ∨ kd = 8) (h : i < 20 ∧ rg i = true) : Lv rg kd i := Or.inr (Or.inr (Or.inl ⟨h1, h⟩))
theorem LvD {rg : Nat → Bool} {kd i : Nat} (h1 : 9 ≤ kd) (h2 : kd ≤ 12) (h : dk rg i) : Lv rg kd i := Or.inr (Or.inr (Or.inr (Or.inl ⟨h1, h2, h⟩)))
theorem LvM {rg : Nat → Bool} : Lv rg 13 0 := Or.inr (Or.inr (Or.inr (Or.inr (Or.inl ⟨rfl, rfl⟩))))
theorem LvA {rg : Nat → Bool} {i : Nat} (h : i < 24 ∧ i ≠ 22) : Lv rg 14 i := Or.inr (Or.inr (Or.inr (Or.inr (Or.inr (Or.inl ⟨rfl, h⟩)))))
theorem LvO {rg : Nat → Bool} : Lv rg 15 0 := Or.inr (Or.inr (Or.inr (Or.inr (Or.inr (Or.inr ⟨rfl, rfl⟩)))))
theorem Lv_le {rg : Nat → Bool} {kd i : Nat} (h : Lv rg kd i) : kd ≤ 15 := by
  unfold Lv at h
  omega
theorem dk_le {rg : Nat → Bool} {d : Nat} (h : dk rg d) : d ≤ 500 := by
  unfold dk at h
  omega
def fc (ar : Nat → ClassId) (ad : Nat → Nat → Nat) (rg : Nat → Bool) (pl : Nat → Nat) (V M : fV) (kd i : Nat) : va_E := match kd with
  | 0 => .inr (6, [.ref (ad 1 0), .ref (ad 9 500), .ref (ad 2 0), .int (V 59 0)])
  | 1 => .inl (ar 3, 20, .inr (.inr (.inr (.inr (fun q => if rg q = true then some (ad 7 q) else none)))))
  | 2 => .inr (3, [.ref (ad 3 0), .ref (ad 4 101), .ref (ad 4 (pl 0)), .int (V 54 0), .int (V 55 0), .int (V 56 0), .int (V 57 0), .int (V 58 0)])
  | 3 => .inl (ar 5, 100, .inr (.inr (.inr (.inr (fun q => some (ad 4 (pl (q + 1))))))))
  | 4 => .inr (2, [.ref (ad 5 i), .int (V 44 i), .int (V 45 i), .int (V 46 i), .int (V 47 i), .int (V 48 i), .int (V 49 i), .int (V 50 i), .int (V 51 i)])
  | 5 => .inr (4, [.ref (ad 6 i), .int (V 52 i)])
  | 6 => .inl (ar 0, 12, .inl (V (1000 + i)))
  | 7 => .inr (5, [.int (V 60 i), .int (V 61 i), .ref (ad 8 i)])
  | 8 => .inl (ar 4, 25, .inr (.inr (.inr (.inr (fun q => some (ad 9 (20 * q + i)))))))
  | 9 => .inr (1, [.int (V 63 i), .int (V 64 i), .ref (ad 10 i), .ref (ad 12 i), .int (V 30 i), .int (V 31 i), .int (V 32 i), .int (V 33 i)])
  | 10 => .inr (4, [.ref (ad 11 i), .int (V 34 i)])
  | 11 => .inl (ar 0, 12, .inl (V (100 + i)))
  | 12 => .inr (0, [.int (V 36 i), .int (V 37 i), .int (V 38 i), .int (V 39 i), .int (V 40 i), .int (V 41 i), .int (V 42 i), .int (V 43 i)])
  | 13 => .inr (7, [.ref (ad 14 0), .ref (ad 14 1), .ref (ad 14 2), .ref (ad 14 3), .ref (ad 14 4), .ref (ad 14 5), .ref (ad 14 6), .ref (ad 14 7), .ref (ad 14 8), .ref (ad 14 9), .ref (ad 14 10), .ref (ad 14 11), .ref (ad 14 12), .ref (ad 14 13), .ref (ad 14 14), .ref (ad 14 15), .ref (ad 14 16), .ref (ad 14 17), .ref (ad 14 18), .ref (ad 14 19), .ref (ad 14 20), .ref (ad 14 21), .int (M 22 0), .ref (ad 14 23), .int (M 24 0), .int (M 25 0), .int (M 26 0), .int (M 27 0)])
  | 14 => .inl (ar (ak i), as_ i, .inl (M i))
  | _ => .inl (ar 1, 1, .inr (.inl (fun q => (V 62 q).toInt64)))
/-- whose number it is -/
def ok (n : Nat) : Nat := if n < 30 then (if n = 22 ∨ 24 ≤ n then 13 else 14) else if n ≤ 33 then 9 else if n = 34 then 10 else if n ≤ 43 then 12 else if n ≤ 51 then 4 else if n = 52 then 5 else if n ≤ 58 then 2 else if n = 59 then 0 else if n ≤ 61 then 7 else if n = 62 then 15 else if n ≤ 64 then 9 else if n < 1000 then 11 else 6
def oi (n j : Nat) : Nat := if n < 30 then (if n = 22 ∨ 24 ≤ n then 0 else n) else if n ≤ 52 then j else if n ≤ 59 then 0 else if n ≤ 61 then j else if n = 62 then 0 else if n ≤ 64 then j else if n < 1000 then n - 100 else n - 1000
def Lay (ar : Nat → ClassId) (ad : Nat → Nat → Nat) (rg : Nat → Bool) (pl : Nat → Nat) (V M : fV) (σ : mp_M) : Prop :=
  (∀ kd i, Lv rg kd i → σ (ad kd i) = some (fc ar ad rg pl V M kd i)) ∧ ∀ kd i kd' i', Lv rg kd i → Lv rg kd' i' → ad kd i = ad kd' i' → kd = kd' ∧ i = i'
theorem ok6 (i : Nat) : ok (1000 + i) = 6 := by
  unfold ok
  (repeat' split) <;> omega
theorem oi6 (i j : Nat) : oi (1000 + i) j = i := by
  unfold oi
  (repeat' split) <;> omega
theorem ok11 {i : Nat} (h : i ≤ 500) : ok (100 + i) = 11 := by
  unfold ok
  (repeat' split) <;> omega
theorem oi11 {i : Nat} (j : Nat) (h : i ≤ 500) : oi (100 + i) j = i := by
  unfold oi
  (repeat' split) <;> omega
theorem ok14 {i : Nat} (h : i < 24 ∧ i ≠ 22) : ok i = 14 := by
  unfold ok
  (repeat' split) <;> omega
theorem oi14 {i : Nat} (j : Nat) (h : i < 24 ∧ i ≠ 22) : oi i j = i := by
  unfold oi
  (repeat' split) <;> omega
theorem fn_0 {ar : Nat → ClassId} {ad : Nat → Nat → Nat} {rg : Nat → Bool} {pl : Nat → Nat} {V M : fV} {n j : Nat} {v : Int32} {i : Nat} (hs : i = 0) (h : ¬ (0 = ok n ∧ i = oi n j)) : fc ar ad rg pl (mu V n j v) M 0 i = fc ar ad rg pl V M 0 i := by
  subst hs
  have e : ∀ k' i', ok k' = 0 → oi k' i' = 0 → mu V n j v k' i' = V k' i' := fun k' i' h1 h2 => mu_o (fun q => by obtain ⟨rfl, rfl⟩ := q; exact h ⟨h1.symm, h2.symm⟩)
  show (.inr (6, [.ref (ad 1 0), .ref (ad 9 500), .ref (ad 2 0), .int (mu V n j v 59 0)]) : va_E) = .inr (6, [.ref (ad 1 0), .ref (ad 9 500), .ref (ad 2 0), .int (V 59 0)])
  rw [e 59 0 (by decide +kernel) (by decide +kernel)]
theorem fn_1 {ar : Nat → ClassId} {ad : Nat → Nat → Nat} {rg : Nat → Bool} {pl : Nat → Nat} {V M : fV} {n j : Nat} {v : Int32} {i : Nat} (h : ¬ (1 = ok n ∧ i = oi n j)) : fc ar ad rg pl (mu V n j v) M 1 i = fc ar ad rg pl V M 1 i := by
  show (.inl (ar 3, 20, .inr (.inr (.inr (.inr (fun q => if rg q = true then some (ad 7 q) else none))))) : va_E) = .inl (ar 3, 20, .inr (.inr (.inr (.inr (fun q => if rg q = true then some (ad 7 q) else none)))))
  rfl
theorem fn_2 {ar : Nat → ClassId} {ad : Nat → Nat → Nat} {rg : Nat → Bool} {pl : Nat → Nat} {V M : fV} {n j : Nat} {v : Int32} {i : Nat} (hs : i = 0) (h : ¬ (2 = ok n ∧ i = oi n j)) : fc ar ad rg pl (mu V n j v) M 2 i = fc ar ad rg pl V M 2 i := by
  subst hs
  have e : ∀ k' i', ok k' = 2 → oi k' i' = 0 → mu V n j v k' i' = V k' i' := fun k' i' h1 h2 => mu_o (fun q => by obtain ⟨rfl, rfl⟩ := q; exact h ⟨h1.symm, h2.symm⟩)
  show (.inr (3, [.ref (ad 3 0), .ref (ad 4 101), .ref (ad 4 (pl 0)), .int (mu V n j v 54 0), .int (mu V n j v 55 0), .int (mu V n j v 56 0), .int (mu V n j v 57 0), .int (mu V n j v 58 0)]) : va_E) = .inr (3, [.ref (ad 3 0), .ref (ad 4 101), .ref (ad 4 (pl 0)), .int (V 54 0), .int (V 55 0), .int (V 56 0), .int (V 57 0), .int (V 58 0)])
  rw [e 54 0 (by decide +kernel) (by decide +kernel), e 55 0 (by decide +kernel) (by decide +kernel), e 56 0 (by decide +kernel) (by decide +kernel), e 57 0 (by decide +kernel) (by decide +kernel), e 58 0 (by decide +kernel) (by decide +kernel)]
theorem fn_3 {ar : Nat → ClassId} {ad : Nat → Nat → Nat} {rg : Nat → Bool} {pl : Nat → Nat} {V M : fV} {n j : Nat} {v : Int32} {i : Nat} (h : ¬ (3 = ok n ∧ i = oi n j)) : fc ar ad rg pl (mu V n j v) M 3 i = fc ar ad rg pl V M 3 i := by
  show (.inl (ar 5, 100, .inr (.inr (.inr (.inr (fun q => some (ad 4 (pl (q + 1)))))))) : va_E) = .inl (ar 5, 100, .inr (.inr (.inr (.inr (fun q => some (ad 4 (pl (q + 1))))))))
  rfl
theorem fn_4 {ar : Nat → ClassId} {ad : Nat → Nat → Nat} {rg : Nat → Bool} {pl : Nat → Nat} {V M : fV} {n j : Nat} {v : Int32} {i : Nat} (h : ¬ (4 = ok n ∧ i = oi n j)) : fc ar ad rg pl (mu V n j v) M 4 i = fc ar ad rg pl V M 4 i := by
  have e : ∀ k' i', ok k' = 4 → oi k' i' = i → mu V n j v k' i' = V k' i' := fun k' i' h1 h2 => mu_o (fun q => by obtain ⟨rfl, rfl⟩ := q; exact h ⟨h1.symm, h2.symm⟩)
  show (.inr (2, [.ref (ad 5 i), .int (mu V n j v 44 i), .int (mu V n j v 45 i), .int (mu V n j v 46 i), .int (mu V n j v 47 i), .int (mu V n j v 48 i), .int (mu V n j v 49 i), .int (mu V n j v 50 i), .int (mu V n j v 51 i)]) : va_E) = .inr (2, [.ref (ad 5 i), .int (V 44 i), .int (V 45 i), .int (V 46 i), .int (V 47 i), .int (V 48 i), .int (V 49 i), .int (V 50 i), .int (V 51 i)])
  rw [e 44 i (by decide +kernel) rfl, e 45 i (by decide +kernel) rfl, e 46 i (by decide +kernel) rfl, e 47 i (by decide +kernel) rfl, e 48 i (by decide +kernel) rfl, e 49 i (by decide +kernel) rfl, e 50 i (by decide +kernel) rfl, e 51 i (by decide +kernel) rfl]
theorem fn_5 {ar : Nat → ClassId} {ad : Nat → Nat → Nat} {rg : Nat → Bool} {pl : Nat → Nat} {V M : fV} {n j : Nat} {v : Int32} {i : Nat} (h : ¬ (5 = ok n ∧ i = oi n j)) : fc ar ad rg pl (mu V n j v) M 5 i = fc ar ad rg pl V M 5 i := by
  have e : ∀ k' i', ok k' = 5 → oi k' i' = i → mu V n j v k' i' = V k' i' := fun k' i' h1 h2 => mu_o (fun q => by obtain ⟨rfl, rfl⟩ := q; exact h ⟨h1.symm, h2.symm⟩)
  show (.inr (4, [.ref (ad 6 i), .int (mu V n j v 52 i)]) : va_E) = .inr (4, [.ref (ad 6 i), .int (V 52 i)])
  rw [e 52 i (by decide +kernel) rfl]
theorem fn_6 {ar : Nat → ClassId} {ad : Nat → Nat → Nat} {rg : Nat → Bool} {pl : Nat → Nat} {V M : fV} {n j : Nat} {v : Int32} {i : Nat} (h : ¬ (6 = ok n ∧ i = oi n j)) : fc ar ad rg pl (mu V n j v) M 6 i = fc ar ad rg pl V M 6 i := by
  show (.inl (ar 0, 12, .inl (mu V n j v (1000 + i))) : va_E) = .inl (ar 0, 12, .inl (V (1000 + i)))
  rw [mu_kr (fun q => h ⟨by rw [← q]; exact (ok6 i).symm, by rw [← q]; exact (oi6 i j).symm⟩)]
theorem fn_7 {ar : Nat → ClassId} {ad : Nat → Nat → Nat} {rg : Nat → Bool} {pl : Nat → Nat} {V M : fV} {n j : Nat} {v : Int32} {i : Nat} (h : ¬ (7 = ok n ∧ i = oi n j)) : fc ar ad rg pl (mu V n j v) M 7 i = fc ar ad rg pl V M 7 i := by
  have e : ∀ k' i', ok k' = 7 → oi k' i' = i → mu V n j v k' i' = V k' i' := fun k' i' h1 h2 => mu_o (fun q => by obtain ⟨rfl, rfl⟩ := q; exact h ⟨h1.symm, h2.symm⟩)
  show (.inr (5, [.int (mu V n j v 60 i), .int (mu V n j v 61 i), .ref (ad 8 i)]) : va_E) = .inr (5, [.int (V 60 i), .int (V 61 i), .ref (ad 8 i)])
  rw [e 60 i (by decide +kernel) rfl, e 61 i (by decide +kernel) rfl]
theorem fn_8 {ar : Nat → ClassId} {ad : Nat → Nat → Nat} {rg : Nat → Bool} {pl : Nat → Nat} {V M : fV} {n j : Nat} {v : Int32} {i : Nat} (h : ¬ (8 = ok n ∧ i = oi n j)) : fc ar ad rg pl (mu V n j v) M 8 i = fc ar ad rg pl V M 8 i := by
  show (.inl (ar 4, 25, .inr (.inr (.inr (.inr (fun q => some (ad 9 (20 * q + i))))))) : va_E) = .inl (ar 4, 25, .inr (.inr (.inr (.inr (fun q => some (ad 9 (20 * q + i)))))))
  rfl
theorem fn_9 {ar : Nat → ClassId} {ad : Nat → Nat → Nat} {rg : Nat → Bool} {pl : Nat → Nat} {V M : fV} {n j : Nat} {v : Int32} {i : Nat} (h : ¬ (9 = ok n ∧ i = oi n j)) : fc ar ad rg pl (mu V n j v) M 9 i = fc ar ad rg pl V M 9 i := by
  have e : ∀ k' i', ok k' = 9 → oi k' i' = i → mu V n j v k' i' = V k' i' := fun k' i' h1 h2 => mu_o (fun q => by obtain ⟨rfl, rfl⟩ := q; exact h ⟨h1.symm, h2.symm⟩)
  show (.inr (1, [.int (mu V n j v 63 i), .int (mu V n j v 64 i), .ref (ad 10 i), .ref (ad 12 i), .int (mu V n j v 30 i), .int (mu V n j v 31 i), .int (mu V n j v 32 i), .int (mu V n j v 33 i)]) : va_E) = .inr (1, [.int (V 63 i), .int (V 64 i), .ref (ad 10 i), .ref (ad 12 i), .int (V 30 i), .int (V 31 i), .int (V 32 i), .int (V 33 i)])
  rw [e 63 i (by decide +kernel) rfl, e 64 i (by decide +kernel) rfl, e 30 i (by decide +kernel) rfl, e 31 i (by decide +kernel) rfl, e 32 i (by decide +kernel) rfl, e 33 i (by decide +kernel) rfl]
theorem fn_10 {ar : Nat → ClassId} {ad : Nat → Nat → Nat} {rg : Nat → Bool} {pl : Nat → Nat} {V M : fV} {n j : Nat} {v : Int32} {i : Nat} (h : ¬ (10 = ok n ∧ i = oi n j)) : fc ar ad rg pl (mu V n j v) M 10 i = fc ar ad rg pl V M 10 i := by
  have e : ∀ k' i', ok k' = 10 → oi k' i' = i → mu V n j v k' i' = V k' i' := fun k' i' h1 h2 => mu_o (fun q => by obtain ⟨rfl, rfl⟩ := q; exact h ⟨h1.symm, h2.symm⟩)
  show (.inr (4, [.ref (ad 11 i), .int (mu V n j v 34 i)]) : va_E) = .inr (4, [.ref (ad 11 i), .int (V 34 i)])
  rw [e 34 i (by decide +kernel) rfl]
theorem fn_11 {ar : Nat → ClassId} {ad : Nat → Nat → Nat} {rg : Nat → Bool} {pl : Nat → Nat} {V M : fV} {n j : Nat} {v : Int32} {i : Nat} (hd : i ≤ 500) (h : ¬ (11 = ok n ∧ i = oi n j)) : fc ar ad rg pl (mu V n j v) M 11 i = fc ar ad rg pl V M 11 i := by
  show (.inl (ar 0, 12, .inl (mu V n j v (100 + i))) : va_E) = .inl (ar 0, 12, .inl (V (100 + i)))
  rw [mu_kr (fun q => h ⟨by rw [← q]; exact (ok11 hd).symm, by rw [← q]; exact (oi11 j hd).symm⟩)]
theorem fn_12 {ar : Nat → ClassId} {ad : Nat → Nat → Nat} {rg : Nat → Bool} {pl : Nat → Nat} {V M : fV} {n j : Nat} {v : Int32} {i : Nat} (h : ¬ (12 = ok n ∧ i = oi n j)) : fc ar ad rg pl (mu V n j v) M 12 i = fc ar ad rg pl V M 12 i := by
  have e : ∀ k' i', ok k' = 12 → oi k' i' = i → mu V n j v k' i' = V k' i' := fun k' i' h1 h2 => mu_o (fun q => by obtain ⟨rfl, rfl⟩ := q; exact h ⟨h1.symm, h2.symm⟩)
  show (.inr (0, [.int (mu V n j v 36 i), .int (mu V n j v 37 i), .int (mu V n j v 38 i), .int (mu V n j v 39 i), .int (mu V n j v 40 i), .int (mu V n j v 41 i), .int (mu V n j v 42 i), .int (mu V n j v 43 i)]) : va_E) = .inr (0, [.int (V 36 i), .int (V 37 i), .int (V 38 i), .int (V 39 i), .int (V 40 i), .int (V 41 i), .int (V 42 i), .int (V 43 i)])
  rw [e 36 i (by decide +kernel) rfl, e 37 i (by decide +kernel) rfl, e 38 i (by decide +kernel) rfl, e 39 i (by decide +kernel) rfl, e 40 i (by decide +kernel) rfl, e 41 i (by decide +kernel) rfl, e 42 i (by decide +kernel) rfl, e 43 i (by decide +kernel) rfl]
theorem fn_13 {ar : Nat → ClassId} {ad : Nat → Nat → Nat} {rg : Nat → Bool} {pl : Nat → Nat} {V M : fV} {n j : Nat} {v : Int32} {i : Nat} (hs : i = 0) (h : ¬ (13 = ok n ∧ i = oi n j)) : fc ar ad rg pl (mu V n j v) M 13 i = fc ar ad rg pl V M 13 i := by
  show (.inr (7, [.ref (ad 14 0), .ref (ad 14 1), .ref (ad 14 2), .ref (ad 14 3), .ref (ad 14 4), .ref (ad 14 5), .ref (ad 14 6), .ref (ad 14 7), .ref (ad 14 8), .ref (ad 14 9), .ref (ad 14 10), .ref (ad 14 11), .ref (ad 14 12), .ref (ad 14 13), .ref (ad 14 14), .ref (ad 14 15), .ref (ad 14 16), .ref (ad 14 17), .ref (ad 14 18), .ref (ad 14 19), .ref (ad 14 20), .ref (ad 14 21), .int (M 22 0), .ref (ad 14 23), .int (M 24 0), .int (M 25 0), .int (M 26 0), .int (M 27 0)]) : va_E) = .inr (7, [.ref (ad 14 0), .ref (ad 14 1), .ref (ad 14 2), .ref (ad 14 3), .ref (ad 14 4), .ref (ad 14 5), .ref (ad 14 6), .ref (ad 14 7), .ref (ad 14 8), .ref (ad 14 9), .ref (ad 14 10), .ref (ad 14 11), .ref (ad 14 12), .ref (ad 14 13), .ref (ad 14 14), .ref (ad 14 15), .ref (ad 14 16), .ref (ad 14 17), .ref (ad 14 18), .ref (ad 14 19), .ref (ad 14 20), .ref (ad 14 21), .int (M 22 0), .ref (ad 14 23), .int (M 24 0), .int (M 25 0), .int (M 26 0), .int (M 27 0)])
  rfl
theorem fn_14 {ar : Nat → ClassId} {ad : Nat → Nat → Nat} {rg : Nat → Bool} {pl : Nat → Nat} {V M : fV} {n j : Nat} {v : Int32} {i : Nat} (ha : i < 24 ∧ i ≠ 22) (h : ¬ (14 = ok n ∧ i = oi n j)) : fc ar ad rg pl (mu V n j v) M 14 i = fc ar ad rg pl V M 14 i := by
  show (.inl (ar (ak i), as_ i, .inl (M i)) : va_E) = .inl (ar (ak i), as_ i, .inl (M i))
  rfl
theorem fn_15 {ar : Nat → ClassId} {ad : Nat → Nat → Nat} {rg : Nat → Bool} {pl : Nat → Nat} {V M : fV} {n j : Nat} {v : Int32} {i : Nat} (hs : i = 0) (h : ¬ (15 = ok n ∧ i = oi n j)) : fc ar ad rg pl (mu V n j v) M 15 i = fc ar ad rg pl V M 15 i := by
  show (.inl (ar 1, 1, .inr (.inl (fun q => (mu V n j v 62 q).toInt64))) : va_E) = .inl (ar 1, 1, .inr (.inl (fun q => (V 62 q).toInt64)))
  subst hs
  rw [mu_kr (fun q => h ⟨by rw [← q]; exact (by decide +kernel), by rw [← q]; exact rfl⟩)]
theorem fc_ne {ar : Nat → ClassId} {ad : Nat → Nat → Nat} {rg : Nat → Bool} {pl : Nat → Nat} {V M : fV} {n j : Nat} {v : Int32} {kd i : Nat} (hl : Lv rg kd i) (h : ¬ (kd = ok n ∧ i = oi n j)) : fc ar ad rg pl (mu V n j v) M kd i = fc ar ad rg pl V M kd i := by
  rcases hl with ⟨q, rfl⟩ | ⟨q, q2, q3⟩ | ⟨q, q2⟩ | ⟨q, q2, q3⟩ | ⟨rfl, rfl⟩ | ⟨rfl, q⟩ | ⟨rfl, rfl⟩
  · have hk : kd = 0 ∨ kd = 1 ∨ kd = 2 ∨ kd = 3 := by omega
    rcases hk with rfl | rfl | rfl | rfl
    · exact fn_0 rfl h
    · exact fn_1 h
    · exact fn_2 rfl h
    · exact fn_3 h
  · have hk : kd = 4 ∨ kd = 5 ∨ kd = 6 := by omega
    rcases hk with rfl | rfl | rfl
    · exact fn_4 h
    · exact fn_5 h
    · exact fn_6 h
  · rcases q with rfl | rfl
    · exact fn_7 h
    · exact fn_8 h
  · have hk : kd = 9 ∨ kd = 10 ∨ kd = 11 ∨ kd = 12 := by omega
    rcases hk with rfl | rfl | rfl | rfl
    · exact fn_9 h
    · exact fn_10 h
    · exact fn_11 (dk_le q3) h
    · exact fn_12 h
  · exact fn_13 rfl h
  · exact fn_14 q h
  · exact fn_15 rfl h
theorem fm_13 {ar : Nat → ClassId} {ad : Nat → Nat → Nat} {rg : Nat → Bool} {pl : Nat → Nat} {V M : fV} {n j : Nat} {v : Int32} {i : Nat} (hs : i = 0) (h : ¬ (13 = ok n ∧ i = oi n j)) : fc ar ad rg pl V (mu M n j v) 13 i = fc ar ad rg pl V M 13 i := by
  subst hs
  have e : ∀ k' i', ok k' = 13 → oi k' i' = 0 → mu M n j v k' i' = M k' i' := fun k' i' h1 h2 => mu_o (fun q => by obtain ⟨rfl, rfl⟩ := q; exact h ⟨h1.symm, h2.symm⟩)
  show (.inr (7, [.ref (ad 14 0), .ref (ad 14 1), .ref (ad 14 2), .ref (ad 14 3), .ref (ad 14 4), .ref (ad 14 5), .ref (ad 14 6), .ref (ad 14 7), .ref (ad 14 8), .ref (ad 14 9), .ref (ad 14 10), .ref (ad 14 11), .ref (ad 14 12), .ref (ad 14 13), .ref (ad 14 14), .ref (ad 14 15), .ref (ad 14 16), .ref (ad 14 17), .ref (ad 14 18), .ref (ad 14 19), .ref (ad 14 20), .ref (ad 14 21), .int (mu M n j v 22 0), .ref (ad 14 23), .int (mu M n j v 24 0), .int (mu M n j v 25 0), .int (mu M n j v 26 0), .int (mu M n j v 27 0)]) : va_E) = .inr (7, [.ref (ad 14 0), .ref (ad 14 1), .ref (ad 14 2), .ref (ad 14 3), .ref (ad 14 4), .ref (ad 14 5), .ref (ad 14 6), .ref (ad 14 7), .ref (ad 14 8), .ref (ad 14 9), .ref (ad 14 10), .ref (ad 14 11), .ref (ad 14 12), .ref (ad 14 13), .ref (ad 14 14), .ref (ad 14 15), .ref (ad 14 16), .ref (ad 14 17), .ref (ad 14 18), .ref (ad 14 19), .ref (ad 14 20), .ref (ad 14 21), .int (M 22 0), .ref (ad 14 23), .int (M 24 0), .int (M 25 0), .int (M 26 0), .int (M 27 0)])
  rw [e 22 0 (by decide +kernel) (by decide +kernel), e 24 0 (by decide +kernel) (by decide +kernel), e 25 0 (by decide +kernel) (by decide +kernel), e 26 0 (by decide +kernel) (by decide +kernel), e 27 0 (by decide +kernel) (by decide +kernel)]
theorem fm_14 {ar : Nat → ClassId} {ad : Nat → Nat → Nat} {rg : Nat → Bool} {pl : Nat → Nat} {V M : fV} {n j : Nat} {v : Int32} {i : Nat} (ha : i < 24 ∧ i ≠ 22) (h : ¬ (14 = ok n ∧ i = oi n j)) : fc ar ad rg pl V (mu M n j v) 14 i = fc ar ad rg pl V M 14 i := by
  show (.inl (ar (ak i), as_ i, .inl (mu M n j v i)) : va_E) = .inl (ar (ak i), as_ i, .inl (M i))
  rw [mu_kr (fun q => h ⟨by rw [← q]; exact (ok14 ha).symm, by rw [← q]; exact (oi14 j ha).symm⟩)]
theorem fc_M {ar : Nat → ClassId} {ad : Nat → Nat → Nat} {rg : Nat → Bool} {pl : Nat → Nat} {V M M' : fV} {kd i : Nat} (h : kd ≠ 13) (h2 : kd ≠ 14) : fc ar ad rg pl V M' kd i = fc ar ad rg pl V M kd i := by
  unfold fc
  split <;> first | rfl | exact absurd rfl h | exact absurd rfl h2
theorem fc_neM {ar : Nat → ClassId} {ad : Nat → Nat → Nat} {rg : Nat → Bool} {pl : Nat → Nat} {V M : fV} {n j : Nat} {v : Int32} {kd i : Nat} (hl : Lv rg kd i) (h : ¬ (kd = ok n ∧ i = oi n j)) : fc ar ad rg pl V (mu M n j v) kd i = fc ar ad rg pl V M kd i := by
  by_cases h1 : kd = 13
  · subst h1
    rcases hl with q | q | q | q | q | q | q
    · omega
    · omega
    · omega
    · omega
    · exact fm_13 q.2 h
    · omega
    · omega
  · by_cases h2 : kd = 14
    · subst h2
      rcases hl with q | q | q | q | q | q | q
      · omega
      · omega
      · omega
      · omega
      · omega
      · exact fm_14 q.2 h
      · omega
    · exact fc_M h1 h2
theorem la0 {ar : Nat → ClassId} {ad : Nat → Nat → Nat} {rg : Nat → Bool} {pl : Nat → Nat} {V M : fV} {σ : mp_M} (hL : Lay ar ad rg pl V M σ) : σ (ad 0 0) = some (.inr (6, [.ref (ad 1 0), .ref (ad 9 500), .ref (ad 2 0), .int (V 59 0)])) := hL.1 0 0 (LvG (by decide))
theorem la1 {ar : Nat → ClassId} {ad : Nat → Nat → Nat} {rg : Nat → Bool} {pl : Nat → Nat} {V M : fV} {σ : mp_M} (hL : Lay ar ad rg pl V M σ) : σ (ad 1 0) = some (.inl (ar 3, 20, .inr (.inr (.inr (.inr (fun q => if rg q = true then some (ad 7 q) else none)))))) := hL.1 1 0 (LvG (by decide))
theorem la2 {ar : Nat → ClassId} {ad : Nat → Nat → Nat} {rg : Nat → Bool} {pl : Nat → Nat} {V M : fV} {σ : mp_M} (hL : Lay ar ad rg pl V M σ) : σ (ad 2 0) = some (.inr (3, [.ref (ad 3 0), .ref (ad 4 101), .ref (ad 4 (pl 0)), .int (V 54 0), .int (V 55 0), .int (V 56 0), .int (V 57 0), .int (V 58 0)])) := hL.1 2 0 (LvG (by decide))
theorem la3 {ar : Nat → ClassId} {ad : Nat → Nat → Nat} {rg : Nat → Bool} {pl : Nat → Nat} {V M : fV} {σ : mp_M} (hL : Lay ar ad rg pl V M σ) : σ (ad 3 0) = some (.inl (ar 5, 100, .inr (.inr (.inr (.inr (fun q => some (ad 4 (pl (q + 1))))))))) := hL.1 3 0 (LvG (by decide))
theorem la4 {ar : Nat → ClassId} {ad : Nat → Nat → Nat} {rg : Nat → Bool} {pl : Nat → Nat} {V M : fV} {σ : mp_M} {i : Nat} (hL : Lay ar ad rg pl V M σ) (h : i < 102) : σ (ad 4 i) = some (.inr (2, [.ref (ad 5 i), .int (V 44 i), .int (V 45 i), .int (V 46 i), .int (V 47 i), .int (V 48 i), .int (V 49 i), .int (V 50 i), .int (V 51 i)])) := hL.1 4 i (LvT (by decide) (by decide) h)
theorem la5 {ar : Nat → ClassId} {ad : Nat → Nat → Nat} {rg : Nat → Bool} {pl : Nat → Nat} {V M : fV} {σ : mp_M} {i : Nat} (hL : Lay ar ad rg pl V M σ) (h : i < 102) : σ (ad 5 i) = some (.inr (4, [.ref (ad 6 i), .int (V 52 i)])) := hL.1 5 i (LvT (by decide) (by decide) h)
theorem la6 {ar : Nat → ClassId} {ad : Nat → Nat → Nat} {rg : Nat → Bool} {pl : Nat → Nat} {V M : fV} {σ : mp_M} {i : Nat} (hL : Lay ar ad rg pl V M σ) (h : i < 102) : σ (ad 6 i) = some (.inl (ar 0, 12, .inl (V (1000 + i)))) := hL.1 6 i (LvT (by decide) (by decide) h)
theorem la7 {ar : Nat → ClassId} {ad : Nat → Nat → Nat} {rg : Nat → Bool} {pl : Nat → Nat} {V M : fV} {σ : mp_M} {i : Nat} (hL : Lay ar ad rg pl V M σ) (h : i < 20 ∧ rg i = true) : σ (ad 7 i) = some (.inr (5, [.int (V 60 i), .int (V 61 i), .ref (ad 8 i)])) := hL.1 7 i (LvP (by decide) h)
theorem la8 {ar : Nat → ClassId} {ad : Nat → Nat → Nat} {rg : Nat → Bool} {pl : Nat → Nat} {V M : fV} {σ : mp_M} {i : Nat} (hL : Lay ar ad rg pl V M σ) (h : i < 20 ∧ rg i = true) : σ (ad 8 i) = some (.inl (ar 4, 25, .inr (.inr (.inr (.inr (fun q => some (ad 9 (20 * q + i)))))))) := hL.1 8 i (LvP (by decide) h)
theorem la9 {ar : Nat → ClassId} {ad : Nat → Nat → Nat} {rg : Nat → Bool} {pl : Nat → Nat} {V M : fV} {σ : mp_M} {i : Nat} (hL : Lay ar ad rg pl V M σ) (h : dk rg i) : σ (ad 9 i) = some (.inr (1, [.int (V 63 i), .int (V 64 i), .ref (ad 10 i), .ref (ad 12 i), .int (V 30 i), .int (V 31 i), .int (V 32 i), .int (V 33 i)])) := hL.1 9 i (LvD (by decide) (by decide) h)
theorem la10 {ar : Nat → ClassId} {ad : Nat → Nat → Nat} {rg : Nat → Bool} {pl : Nat → Nat} {V M : fV} {σ : mp_M} {i : Nat} (hL : Lay ar ad rg pl V M σ) (h : dk rg i) : σ (ad 10 i) = some (.inr (4, [.ref (ad 11 i), .int (V 34 i)])) := hL.1 10 i (LvD (by decide) (by decide) h)
theorem la11 {ar : Nat → ClassId} {ad : Nat → Nat → Nat} {rg : Nat → Bool} {pl : Nat → Nat} {V M : fV} {σ : mp_M} {i : Nat} (hL : Lay ar ad rg pl V M σ) (h : dk rg i) : σ (ad 11 i) = some (.inl (ar 0, 12, .inl (V (100 + i)))) := hL.1 11 i (LvD (by decide) (by decide) h)
theorem la12 {ar : Nat → ClassId} {ad : Nat → Nat → Nat} {rg : Nat → Bool} {pl : Nat → Nat} {V M : fV} {σ : mp_M} {i : Nat} (hL : Lay ar ad rg pl V M σ) (h : dk rg i) : σ (ad 12 i) = some (.inr (0, [.int (V 36 i), .int (V 37 i), .int (V 38 i), .int (V 39 i), .int (V 40 i), .int (V 41 i), .int (V 42 i), .int (V 43 i)])) := hL.1 12 i (LvD (by decide) (by decide) h)
theorem la13 {ar : Nat → ClassId} {ad : Nat → Nat → Nat} {rg : Nat → Bool} {pl : Nat → Nat} {V M : fV} {σ : mp_M} (hL : Lay ar ad rg pl V M σ) : σ (ad 13 0) = some (.inr (7, [.ref (ad 14 0), .ref (ad 14 1), .ref (ad 14 2), .ref (ad 14 3), .ref (ad 14 4), .ref (ad 14 5), .ref (ad 14 6), .ref (ad 14 7), .ref (ad 14 8), .ref (ad 14 9), .ref (ad 14 10), .ref (ad 14 11), .ref (ad 14 12), .ref (ad 14 13), .ref (ad 14 14), .ref (ad 14 15), .ref (ad 14 16), .ref (ad 14 17), .ref (ad 14 18), .ref (ad 14 19), .ref (ad 14 20), .ref (ad 14 21), .int (M 22 0), .ref (ad 14 23), .int (M 24 0), .int (M 25 0), .int (M 26 0), .int (M 27 0)])) := hL.1 13 0 (LvM)
theorem la14 {ar : Nat → ClassId} {ad : Nat → Nat → Nat} {rg : Nat → Bool} {pl : Nat → Nat} {V M : fV} {σ : mp_M} {i : Nat} (hL : Lay ar ad rg pl V M σ) (h : i < 24 ∧ i ≠ 22) : σ (ad 14 i) = some (.inl (ar (ak i), as_ i, .inl (M i))) := hL.1 14 i (LvA h)
theorem la15 {ar : Nat → ClassId} {ad : Nat → Nat → Nat} {rg : Nat → Bool} {pl : Nat → Nat} {V M : fV} {σ : mp_M} (hL : Lay ar ad rg pl V M σ) : σ (ad 15 0) = some (.inl (ar 1, 1, .inr (.inl (fun q => (V 62 q).toInt64)))) := hL.1 15 0 (LvO)
theorem lay_mu {ar : Nat → ClassId} {ad : Nat → Nat → Nat} {rg : Nat → Bool} {pl : Nat → Nat} {V M : fV} {σ : mp_M} {σ1 : mp_M} {n j : Nat} {v : Int32} (hL : Lay ar ad rg pl V M σ) {kd i : Nat} (hl : Lv rg kd i) (h1 : σ1 (ad kd i) = some (fc ar ad rg pl (mu V n j v) M kd i)) (o : ∀ q, q ≠ ad kd i → σ1 q = σ q) (hk : kd = ok n) (hi : i = oi n j) : Lay ar ad rg pl (mu V n j v) M σ1 := by
  refine ⟨fun kd' i' hl' => ?_, hL.2⟩
  by_cases h : kd' = kd ∧ i' = i
  · obtain ⟨rfl, rfl⟩ := h
    exact h1
  · rw [o _ (fun q => h (hL.2 _ _ _ _ hl' hl q)), hL.1 _ _ hl', fc_ne hl' (fun q => h ⟨q.1.trans hk.symm, q.2.trans hi.symm⟩)]
theorem lay_muM {ar : Nat → ClassId} {ad : Nat → Nat → Nat} {rg : Nat → Bool} {pl : Nat → Nat} {V M : fV} {σ : mp_M} {σ1 : mp_M} {n j : Nat} {v : Int32} (hL : Lay ar ad rg pl V M σ) {kd i : Nat} (hl : Lv rg kd i) (h1 : σ1 (ad kd i) = some (fc ar ad rg pl V (mu M n j v) kd i)) (o : ∀ q, q ≠ ad kd i → σ1 q = σ q) (hk : kd = ok n) (hi : i = oi n j) : Lay ar ad rg pl V (mu M n j v) σ1 := by
  refine ⟨fun kd' i' hl' => ?_, hL.2⟩
  by_cases h : kd' = kd ∧ i' = i
  · obtain ⟨rfl, rfl⟩ := h
    exact h1
  · rw [o _ (fun q => h (hL.2 _ _ _ _ hl' hl q)), hL.1 _ _ hl', fc_neM hl' (fun q => h ⟨q.1.trans hk.symm, q.2.trans hi.symm⟩)]
section KRW
variable {p : Program} {l : Launch} {e : Env} {R : Room} {s : State} {m : MethodId} {args : Array Value} {below : List Frame} {meth : Method} {c : Code} {H : Heap} {locs : List Loc} {cells slots : Nat} {Q : State → Prop}
variable {cc : ByteArray} {nL pc : Nat} {ls : Array Slot} {rest : List Value} {D : va_G} {ar : Nat → ClassId} {base : Nat} {σ : mp_M} {H0 : Heap} {own : String} {ad : Nat → Nat → Nat} {rg : Nat → Bool} {pl : Nat → Nat} {V M : fV}
theorem mn_zast {a : Nat} (x : XX D ar p s m args c cc nL own) (hH : HH D base σ H) (hS0 : va_S (mp_A base) H0 H locs) {n : Nat} {f : Nat → Int32} (hs : σ a = some (.inl (ar 2, n, .inl f))) {j : Nat} {v : Int32} (hv : vp_nar .boolean v = v) (hj : j < n) (hn : n < 2 ^ 31) (hdg : decode cc pc = .ok (.bastore, 1))
    (kk : ∀ (σ1 : mp_M), σ1 a = some (.inl (ar 2, n, .inl (upd f j v))) → (∀ q, q ≠ a → σ1 q = σ q) → ∀ (H1 : Heap) (locs1 : List Loc), HH D base σ1 H1 → va_S (mp_A base) H0 H1 locs1 → W p l e R s m args below meth c H1 locs1 cells slots Q (F0 m (pc + 1) ls rest)) : W p l e R s m args below meth c H locs cells slots Q (F0 m pc ls (.int v :: .int (nI j) :: .ref a :: rest)) := by
  refine W.zast x.1 x.2.1 (hH a _ hs).2 ((x.2.2.2.2.2.2 2 _ rfl).1 n (fun j => .int (f j))) (fun q => by cases q) (by show ¬ (nI j < 0 ∨ (arrV _ _ _).slots.size ≤ _); rw [arrV_size]; exact vp_in_nI hj hn) rfl rfl hdg fun H1 e z oq => ?_
  refine kk _ (mp_us σ a _) (fun q hq => mp_un _ _ hq) H1 _ (hH.set hs ?_ oq) (hS0.put z oq (hH.ge hs))
  show H1[a]? = some (vp_cell _ _)
  rw [e, vp_cell_i, vp_cell_i, arrV_store, nI_clamp (Nat.lt_trans hj hn)]
  congr 2
  funext q
  have hv' : narrow .boolean (.int v) = .int v := by
    unfold vp_nar at hv
    exact congrArg Value.int hv
  by_cases hq : q = j
  · subst hq
    simp [updV, upd, hv']
  · simp [updV, upd, hq]
theorem kp_ (x : XX D ar p s m args c cc nL own) (hH : HH D base σ H) (hS0 : va_S (mp_A base) H0 H locs) (hL : Lay ar ad rg pl V M σ) {kd i n j : Nat} (hl : Lv rg kd i) {index ci k : Nat} {fs : List Value} (hc : σ (ad kd i) = some (.inr (ci, fs))) (fl : mp_FP cl_L wt_L own index ci k .int false) {v : Int32} (hlen : k < fs.length) (hset : fc ar ad rg pl (mu V n j v) M kd i = .inr (ci, fs.set k (.int v))) (hk : kd = ok n) (hi : i = oi n j) (hdg : decode cc pc = .ok (.putfield index, 3))
    (kk : ∀ (σ1 : mp_M), Lay ar ad rg pl (mu V n j v) M σ1 → ∀ (H1 : Heap) (locs1 : List Loc), HH D base σ1 H1 → va_S (mp_A base) H0 H1 locs1 → W p l e R s m args below meth c H1 locs1 cells slots Q (F0 m (pc + 3) ls rest)) : W p l e R s m args below meth c H locs cells slots Q (F0 m pc ls (.int v :: .ref (ad kd i) :: rest)) :=
  mn_put x hH hS0 hc fl rfl rfl hlen rfl hdg (fun σ1 f o H1 locs1 h1 h2 => kk σ1 (lay_mu hL hl (f.trans (congrArg some hset.symm)) o hk hi) H1 locs1 h1 h2)
theorem kpM_ (x : XX D ar p s m args c cc nL own) (hH : HH D base σ H) (hS0 : va_S (mp_A base) H0 H locs) (hL : Lay ar ad rg pl V M σ) {kd i n j : Nat} (hl : Lv rg kd i) {index ci k : Nat} {fs : List Value} (hc : σ (ad kd i) = some (.inr (ci, fs))) (fl : mp_FP cl_L wt_L own index ci k .int false) {v : Int32} (hlen : k < fs.length) (hset : fc ar ad rg pl V (mu M n j v) kd i = .inr (ci, fs.set k (.int v))) (hk : kd = ok n) (hi : i = oi n j) (hdg : decode cc pc = .ok (.putfield index, 3))
    (kk : ∀ (σ1 : mp_M), Lay ar ad rg pl V (mu M n j v) σ1 → ∀ (H1 : Heap) (locs1 : List Loc), HH D base σ1 H1 → va_S (mp_A base) H0 H1 locs1 → W p l e R s m args below meth c H1 locs1 cells slots Q (F0 m (pc + 3) ls rest)) : W p l e R s m args below meth c H locs cells slots Q (F0 m pc ls (.int v :: .ref (ad kd i) :: rest)) :=
  mn_put x hH hS0 hc fl rfl rfl hlen rfl hdg (fun σ1 f o H1 locs1 h1 h2 => kk σ1 (lay_muM hL hl (f.trans (congrArg some hset.symm)) o hk hi) H1 locs1 h1 h2)
theorem kp_59 (x : XX D ar p s m args c cc nL own) (hH : HH D base σ H) (hS0 : va_S (mp_A base) H0 H locs) (hL : Lay ar ad rg pl V M σ) {index : Nat} (fl : mp_FP cl_L wt_L own index 6 3 .int false) {v : Int32} (hdg : decode cc pc = .ok (.putfield index, 3))
    (kk : ∀ (σ1 : mp_M), Lay ar ad rg pl (mu V 59 0 v) M σ1 → ∀ (H1 : Heap) (locs1 : List Loc), HH D base σ1 H1 → va_S (mp_A base) H0 H1 locs1 → W p l e R s m args below meth c H1 locs1 cells slots Q (F0 m (pc + 3) ls rest)) : W p l e R s m args below meth c H locs cells slots Q (F0 m pc ls (.int v :: .ref (ad 0 0) :: rest)) :=
  kp_ (n := 59) (j := 0) x hH hS0 hL (LvG (by decide)) (la0 hL) fl (by simp) (by simp [fc, mu]) (by decide +kernel) rfl hdg kk
theorem kp_54 (x : XX D ar p s m args c cc nL own) (hH : HH D base σ H) (hS0 : va_S (mp_A base) H0 H locs) (hL : Lay ar ad rg pl V M σ) {index : Nat} (fl : mp_FP cl_L wt_L own index 3 3 .int false) {v : Int32} (hdg : decode cc pc = .ok (.putfield index, 3))
    (kk : ∀ (σ1 : mp_M), Lay ar ad rg pl (mu V 54 0 v) M σ1 → ∀ (H1 : Heap) (locs1 : List Loc), HH D base σ1 H1 → va_S (mp_A base) H0 H1 locs1 → W p l e R s m args below meth c H1 locs1 cells slots Q (F0 m (pc + 3) ls rest)) : W p l e R s m args below meth c H locs cells slots Q (F0 m pc ls (.int v :: .ref (ad 2 0) :: rest)) :=
  kp_ (n := 54) (j := 0) x hH hS0 hL (LvG (by decide)) (la2 hL) fl (by simp) (by simp [fc, mu]) (by decide +kernel) rfl hdg kk
theorem kp_55 (x : XX D ar p s m args c cc nL own) (hH : HH D base σ H) (hS0 : va_S (mp_A base) H0 H locs) (hL : Lay ar ad rg pl V M σ) {index : Nat} (fl : mp_FP cl_L wt_L own index 3 4 .int false) {v : Int32} (hdg : decode cc pc = .ok (.putfield index, 3))
    (kk : ∀ (σ1 : mp_M), Lay ar ad rg pl (mu V 55 0 v) M σ1 → ∀ (H1 : Heap) (locs1 : List Loc), HH D base σ1 H1 → va_S (mp_A base) H0 H1 locs1 → W p l e R s m args below meth c H1 locs1 cells slots Q (F0 m (pc + 3) ls rest)) : W p l e R s m args below meth c H locs cells slots Q (F0 m pc ls (.int v :: .ref (ad 2 0) :: rest)) :=
  kp_ (n := 55) (j := 0) x hH hS0 hL (LvG (by decide)) (la2 hL) fl (by simp) (by simp [fc, mu]) (by decide +kernel) rfl hdg kk
theorem kp_56 (x : XX D ar p s m args c cc nL own) (hH : HH D base σ H) (hS0 : va_S (mp_A base) H0 H locs) (hL : Lay ar ad rg pl V M σ) {index : Nat} (fl : mp_FP cl_L wt_L own index 3 5 .int false) {v : Int32} (hdg : decode cc pc = .ok (.putfield index, 3))
    (kk : ∀ (σ1 : mp_M), Lay ar ad rg pl (mu V 56 0 v) M σ1 → ∀ (H1 : Heap) (locs1 : List Loc), HH D base σ1 H1 → va_S (mp_A base) H0 H1 locs1 → W p l e R s m args below meth c H1 locs1 cells slots Q (F0 m (pc + 3) ls rest)) : W p l e R s m args below meth c H locs cells slots Q (F0 m pc ls (.int v :: .ref (ad 2 0) :: rest)) :=
  kp_ (n := 56) (j := 0) x hH hS0 hL (LvG (by decide)) (la2 hL) fl (by simp) (by simp [fc, mu]) (by decide +kernel) rfl hdg kk
theorem kp_57 (x : XX D ar p s m args c cc nL own) (hH : HH D base σ H) (hS0 : va_S (mp_A base) H0 H locs) (hL : Lay ar ad rg pl V M σ) {index : Nat} (fl : mp_FP cl_L wt_L own index 3 6 .int false) {v : Int32} (hdg : decode cc pc = .ok (.putfield index, 3))
    (kk : ∀ (σ1 : mp_M), Lay ar ad rg pl (mu V 57 0 v) M σ1 → ∀ (H1 : Heap) (locs1 : List Loc), HH D base σ1 H1 → va_S (mp_A base) H0 H1 locs1 → W p l e R s m args below meth c H1 locs1 cells slots Q (F0 m (pc + 3) ls rest)) : W p l e R s m args below meth c H locs cells slots Q (F0 m pc ls (.int v :: .ref (ad 2 0) :: rest)) :=
  kp_ (n := 57) (j := 0) x hH hS0 hL (LvG (by decide)) (la2 hL) fl (by simp) (by simp [fc, mu]) (by decide +kernel) rfl hdg kk
theorem kp_58 (x : XX D ar p s m args c cc nL own) (hH : HH D base σ H) (hS0 : va_S (mp_A base) H0 H locs) (hL : Lay ar ad rg pl V M σ) {index : Nat} (fl : mp_FP cl_L wt_L own index 3 7 .int false) {v : Int32} (hdg : decode cc pc = .ok (.putfield index, 3))
    (kk : ∀ (σ1 : mp_M), Lay ar ad rg pl (mu V 58 0 v) M σ1 → ∀ (H1 : Heap) (locs1 : List Loc), HH D base σ1 H1 → va_S (mp_A base) H0 H1 locs1 → W p l e R s m args below meth c H1 locs1 cells slots Q (F0 m (pc + 3) ls rest)) : W p l e R s m args below meth c H locs cells slots Q (F0 m pc ls (.int v :: .ref (ad 2 0) :: rest)) :=
  kp_ (n := 58) (j := 0) x hH hS0 hL (LvG (by decide)) (la2 hL) fl (by simp) (by simp [fc, mu]) (by decide +kernel) rfl hdg kk
theorem kp_44 (x : XX D ar p s m args c cc nL own) (hH : HH D base σ H) (hS0 : va_S (mp_A base) H0 H locs) (hL : Lay ar ad rg pl V M σ) {i : Nat} (h : i < 102) {index : Nat} (fl : mp_FP cl_L wt_L own index 2 1 .int false) {v : Int32} (hdg : decode cc pc = .ok (.putfield index, 3))
    (kk : ∀ (σ1 : mp_M), Lay ar ad rg pl (mu V 44 i v) M σ1 → ∀ (H1 : Heap) (locs1 : List Loc), HH D base σ1 H1 → va_S (mp_A base) H0 H1 locs1 → W p l e R s m args below meth c H1 locs1 cells slots Q (F0 m (pc + 3) ls rest)) : W p l e R s m args below meth c H locs cells slots Q (F0 m pc ls (.int v :: .ref (ad 4 i) :: rest)) :=
  kp_ (n := 44) (j := i) x hH hS0 hL (LvT (by decide) (by decide) h) (la4 hL h) fl (by simp) (by simp [fc, mu]) (by decide +kernel) rfl hdg kk
theorem kp_45 (x : XX D ar p s m args c cc nL own) (hH : HH D base σ H) (hS0 : va_S (mp_A base) H0 H locs) (hL : Lay ar ad rg pl V M σ) {i : Nat} (h : i < 102) {index : Nat} (fl : mp_FP cl_L wt_L own index 2 2 .int false) {v : Int32} (hdg : decode cc pc = .ok (.putfield index, 3))
    (kk : ∀ (σ1 : mp_M), Lay ar ad rg pl (mu V 45 i v) M σ1 → ∀ (H1 : Heap) (locs1 : List Loc), HH D base σ1 H1 → va_S (mp_A base) H0 H1 locs1 → W p l e R s m args below meth c H1 locs1 cells slots Q (F0 m (pc + 3) ls rest)) : W p l e R s m args below meth c H locs cells slots Q (F0 m pc ls (.int v :: .ref (ad 4 i) :: rest)) :=
  kp_ (n := 45) (j := i) x hH hS0 hL (LvT (by decide) (by decide) h) (la4 hL h) fl (by simp) (by simp [fc, mu]) (by decide +kernel) rfl hdg kk
theorem kp_46 (x : XX D ar p s m args c cc nL own) (hH : HH D base σ H) (hS0 : va_S (mp_A base) H0 H locs) (hL : Lay ar ad rg pl V M σ) {i : Nat} (h : i < 102) {index : Nat} (fl : mp_FP cl_L wt_L own index 2 3 .int false) {v : Int32} (hdg : decode cc pc = .ok (.putfield index, 3))
    (kk : ∀ (σ1 : mp_M), Lay ar ad rg pl (mu V 46 i v) M σ1 → ∀ (H1 : Heap) (locs1 : List Loc), HH D base σ1 H1 → va_S (mp_A base) H0 H1 locs1 → W p l e R s m args below meth c H1 locs1 cells slots Q (F0 m (pc + 3) ls rest)) : W p l e R s m args below meth c H locs cells slots Q (F0 m pc ls (.int v :: .ref (ad 4 i) :: rest)) :=
  kp_ (n := 46) (j := i) x hH hS0 hL (LvT (by decide) (by decide) h) (la4 hL h) fl (by simp) (by simp [fc, mu]) (by decide +kernel) rfl hdg kk
theorem kp_47 (x : XX D ar p s m args c cc nL own) (hH : HH D base σ H) (hS0 : va_S (mp_A base) H0 H locs) (hL : Lay ar ad rg pl V M σ) {i : Nat} (h : i < 102) {index : Nat} (fl : mp_FP cl_L wt_L own index 2 4 .int false) {v : Int32} (hdg : decode cc pc = .ok (.putfield index, 3))
    (kk : ∀ (σ1 : mp_M), Lay ar ad rg pl (mu V 47 i v) M σ1 → ∀ (H1 : Heap) (locs1 : List Loc), HH D base σ1 H1 → va_S (mp_A base) H0 H1 locs1 → W p l e R s m args below meth c H1 locs1 cells slots Q (F0 m (pc + 3) ls rest)) : W p l e R s m args below meth c H locs cells slots Q (F0 m pc ls (.int v :: .ref (ad 4 i) :: rest)) :=
  kp_ (n := 47) (j := i) x hH hS0 hL (LvT (by decide) (by decide) h) (la4 hL h) fl (by simp) (by simp [fc, mu]) (by decide +kernel) rfl hdg kk
theorem kp_48 (x : XX D ar p s m args c cc nL own) (hH : HH D base σ H) (hS0 : va_S (mp_A base) H0 H locs) (hL : Lay ar ad rg pl V M σ) {i : Nat} (h : i < 102) {index : Nat} (fl : mp_FP cl_L wt_L own index 2 5 .int false) {v : Int32} (hdg : decode cc pc = .ok (.putfield index, 3))
    (kk : ∀ (σ1 : mp_M), Lay ar ad rg pl (mu V 48 i v) M σ1 → ∀ (H1 : Heap) (locs1 : List Loc), HH D base σ1 H1 → va_S (mp_A base) H0 H1 locs1 → W p l e R s m args below meth c H1 locs1 cells slots Q (F0 m (pc + 3) ls rest)) : W p l e R s m args below meth c H locs cells slots Q (F0 m pc ls (.int v :: .ref (ad 4 i) :: rest)) :=
  kp_ (n := 48) (j := i) x hH hS0 hL (LvT (by decide) (by decide) h) (la4 hL h) fl (by simp) (by simp [fc, mu]) (by decide +kernel) rfl hdg kk
theorem kp_49 (x : XX D ar p s m args c cc nL own) (hH : HH D base σ H) (hS0 : va_S (mp_A base) H0 H locs) (hL : Lay ar ad rg pl V M σ) {i : Nat} (h : i < 102) {index : Nat} (fl : mp_FP cl_L wt_L own index 2 6 .int false) {v : Int32} (hdg : decode cc pc = .ok (.putfield index, 3))
    (kk : ∀ (σ1 : mp_M), Lay ar ad rg pl (mu V 49 i v) M σ1 → ∀ (H1 : Heap) (locs1 : List Loc), HH D base σ1 H1 → va_S (mp_A base) H0 H1 locs1 → W p l e R s m args below meth c H1 locs1 cells slots Q (F0 m (pc + 3) ls rest)) : W p l e R s m args below meth c H locs cells slots Q (F0 m pc ls (.int v :: .ref (ad 4 i) :: rest)) :=
  kp_ (n := 49) (j := i) x hH hS0 hL (LvT (by decide) (by decide) h) (la4 hL h) fl (by simp) (by simp [fc, mu]) (by decide +kernel) rfl hdg kk
theorem kp_50 (x : XX D ar p s m args c cc nL own) (hH : HH D base σ H) (hS0 : va_S (mp_A base) H0 H locs) (hL : Lay ar ad rg pl V M σ) {i : Nat} (h : i < 102) {index : Nat} (fl : mp_FP cl_L wt_L own index 2 7 .int false) {v : Int32} (hdg : decode cc pc = .ok (.putfield index, 3))
    (kk : ∀ (σ1 : mp_M), Lay ar ad rg pl (mu V 50 i v) M σ1 → ∀ (H1 : Heap) (locs1 : List Loc), HH D base σ1 H1 → va_S (mp_A base) H0 H1 locs1 → W p l e R s m args below meth c H1 locs1 cells slots Q (F0 m (pc + 3) ls rest)) : W p l e R s m args below meth c H locs cells slots Q (F0 m pc ls (.int v :: .ref (ad 4 i) :: rest)) :=
  kp_ (n := 50) (j := i) x hH hS0 hL (LvT (by decide) (by decide) h) (la4 hL h) fl (by simp) (by simp [fc, mu]) (by decide +kernel) rfl hdg kk
theorem kp_51 (x : XX D ar p s m args c cc nL own) (hH : HH D base σ H) (hS0 : va_S (mp_A base) H0 H locs) (hL : Lay ar ad rg pl V M σ) {i : Nat} (h : i < 102) {index : Nat} (fl : mp_FP cl_L wt_L own index 2 8 .int false) {v : Int32} (hdg : decode cc pc = .ok (.putfield index, 3))
    (kk : ∀ (σ1 : mp_M), Lay ar ad rg pl (mu V 51 i v) M σ1 → ∀ (H1 : Heap) (locs1 : List Loc), HH D base σ1 H1 → va_S (mp_A base) H0 H1 locs1 → W p l e R s m args below meth c H1 locs1 cells slots Q (F0 m (pc + 3) ls rest)) : W p l e R s m args below meth c H locs cells slots Q (F0 m pc ls (.int v :: .ref (ad 4 i) :: rest)) :=
  kp_ (n := 51) (j := i) x hH hS0 hL (LvT (by decide) (by decide) h) (la4 hL h) fl (by simp) (by simp [fc, mu]) (by decide +kernel) rfl hdg kk
theorem kp_52 (x : XX D ar p s m args c cc nL own) (hH : HH D base σ H) (hS0 : va_S (mp_A base) H0 H locs) (hL : Lay ar ad rg pl V M σ) {i : Nat} (h : i < 102) {index : Nat} (fl : mp_FP cl_L wt_L own index 4 1 .int false) {v : Int32} (hdg : decode cc pc = .ok (.putfield index, 3))
    (kk : ∀ (σ1 : mp_M), Lay ar ad rg pl (mu V 52 i v) M σ1 → ∀ (H1 : Heap) (locs1 : List Loc), HH D base σ1 H1 → va_S (mp_A base) H0 H1 locs1 → W p l e R s m args below meth c H1 locs1 cells slots Q (F0 m (pc + 3) ls rest)) : W p l e R s m args below meth c H locs cells slots Q (F0 m pc ls (.int v :: .ref (ad 5 i) :: rest)) :=
  kp_ (n := 52) (j := i) x hH hS0 hL (LvT (by decide) (by decide) h) (la5 hL h) fl (by simp) (by simp [fc, mu]) (by decide +kernel) rfl hdg kk
theorem kp_30 (x : XX D ar p s m args c cc nL own) (hH : HH D base σ H) (hS0 : va_S (mp_A base) H0 H locs) (hL : Lay ar ad rg pl V M σ) {i : Nat} (h : dk rg i) {index : Nat} (fl : mp_FP cl_L wt_L own index 1 4 .int false) {v : Int32} (hdg : decode cc pc = .ok (.putfield index, 3))
    (kk : ∀ (σ1 : mp_M), Lay ar ad rg pl (mu V 30 i v) M σ1 → ∀ (H1 : Heap) (locs1 : List Loc), HH D base σ1 H1 → va_S (mp_A base) H0 H1 locs1 → W p l e R s m args below meth c H1 locs1 cells slots Q (F0 m (pc + 3) ls rest)) : W p l e R s m args below meth c H locs cells slots Q (F0 m pc ls (.int v :: .ref (ad 9 i) :: rest)) :=
  kp_ (n := 30) (j := i) x hH hS0 hL (LvD (by decide) (by decide) h) (la9 hL h) fl (by simp) (by simp [fc, mu]) (by decide +kernel) rfl hdg kk
theorem kp_31 (x : XX D ar p s m args c cc nL own) (hH : HH D base σ H) (hS0 : va_S (mp_A base) H0 H locs) (hL : Lay ar ad rg pl V M σ) {i : Nat} (h : dk rg i) {index : Nat} (fl : mp_FP cl_L wt_L own index 1 5 .int false) {v : Int32} (hdg : decode cc pc = .ok (.putfield index, 3))
    (kk : ∀ (σ1 : mp_M), Lay ar ad rg pl (mu V 31 i v) M σ1 → ∀ (H1 : Heap) (locs1 : List Loc), HH D base σ1 H1 → va_S (mp_A base) H0 H1 locs1 → W p l e R s m args below meth c H1 locs1 cells slots Q (F0 m (pc + 3) ls rest)) : W p l e R s m args below meth c H locs cells slots Q (F0 m pc ls (.int v :: .ref (ad 9 i) :: rest)) :=
  kp_ (n := 31) (j := i) x hH hS0 hL (LvD (by decide) (by decide) h) (la9 hL h) fl (by simp) (by simp [fc, mu]) (by decide +kernel) rfl hdg kk
theorem kp_32 (x : XX D ar p s m args c cc nL own) (hH : HH D base σ H) (hS0 : va_S (mp_A base) H0 H locs) (hL : Lay ar ad rg pl V M σ) {i : Nat} (h : dk rg i) {index : Nat} (fl : mp_FP cl_L wt_L own index 1 6 .int false) {v : Int32} (hdg : decode cc pc = .ok (.putfield index, 3))
    (kk : ∀ (σ1 : mp_M), Lay ar ad rg pl (mu V 32 i v) M σ1 → ∀ (H1 : Heap) (locs1 : List Loc), HH D base σ1 H1 → va_S (mp_A base) H0 H1 locs1 → W p l e R s m args below meth c H1 locs1 cells slots Q (F0 m (pc + 3) ls rest)) : W p l e R s m args below meth c H locs cells slots Q (F0 m pc ls (.int v :: .ref (ad 9 i) :: rest)) :=
  kp_ (n := 32) (j := i) x hH hS0 hL (LvD (by decide) (by decide) h) (la9 hL h) fl (by simp) (by simp [fc, mu]) (by decide +kernel) rfl hdg kk
theorem kp_33 (x : XX D ar p s m args c cc nL own) (hH : HH D base σ H) (hS0 : va_S (mp_A base) H0 H locs) (hL : Lay ar ad rg pl V M σ) {i : Nat} (h : dk rg i) {index : Nat} (fl : mp_FP cl_L wt_L own index 1 7 .int false) {v : Int32} (hdg : decode cc pc = .ok (.putfield index, 3))
    (kk : ∀ (σ1 : mp_M), Lay ar ad rg pl (mu V 33 i v) M σ1 → ∀ (H1 : Heap) (locs1 : List Loc), HH D base σ1 H1 → va_S (mp_A base) H0 H1 locs1 → W p l e R s m args below meth c H1 locs1 cells slots Q (F0 m (pc + 3) ls rest)) : W p l e R s m args below meth c H locs cells slots Q (F0 m pc ls (.int v :: .ref (ad 9 i) :: rest)) :=
  kp_ (n := 33) (j := i) x hH hS0 hL (LvD (by decide) (by decide) h) (la9 hL h) fl (by simp) (by simp [fc, mu]) (by decide +kernel) rfl hdg kk
theorem kp_34 (x : XX D ar p s m args c cc nL own) (hH : HH D base σ H) (hS0 : va_S (mp_A base) H0 H locs) (hL : Lay ar ad rg pl V M σ) {i : Nat} (h : dk rg i) {index : Nat} (fl : mp_FP cl_L wt_L own index 4 1 .int false) {v : Int32} (hdg : decode cc pc = .ok (.putfield index, 3))
    (kk : ∀ (σ1 : mp_M), Lay ar ad rg pl (mu V 34 i v) M σ1 → ∀ (H1 : Heap) (locs1 : List Loc), HH D base σ1 H1 → va_S (mp_A base) H0 H1 locs1 → W p l e R s m args below meth c H1 locs1 cells slots Q (F0 m (pc + 3) ls rest)) : W p l e R s m args below meth c H locs cells slots Q (F0 m pc ls (.int v :: .ref (ad 10 i) :: rest)) :=
  kp_ (n := 34) (j := i) x hH hS0 hL (LvD (by decide) (by decide) h) (la10 hL h) fl (by simp) (by simp [fc, mu]) (by decide +kernel) rfl hdg kk
theorem kp_36 (x : XX D ar p s m args c cc nL own) (hH : HH D base σ H) (hS0 : va_S (mp_A base) H0 H locs) (hL : Lay ar ad rg pl V M σ) {i : Nat} (h : dk rg i) {index : Nat} (fl : mp_FP cl_L wt_L own index 0 0 .int false) {v : Int32} (hdg : decode cc pc = .ok (.putfield index, 3))
    (kk : ∀ (σ1 : mp_M), Lay ar ad rg pl (mu V 36 i v) M σ1 → ∀ (H1 : Heap) (locs1 : List Loc), HH D base σ1 H1 → va_S (mp_A base) H0 H1 locs1 → W p l e R s m args below meth c H1 locs1 cells slots Q (F0 m (pc + 3) ls rest)) : W p l e R s m args below meth c H locs cells slots Q (F0 m pc ls (.int v :: .ref (ad 12 i) :: rest)) :=
  kp_ (n := 36) (j := i) x hH hS0 hL (LvD (by decide) (by decide) h) (la12 hL h) fl (by simp) (by simp [fc, mu]) (by decide +kernel) rfl hdg kk
theorem kp_37 (x : XX D ar p s m args c cc nL own) (hH : HH D base σ H) (hS0 : va_S (mp_A base) H0 H locs) (hL : Lay ar ad rg pl V M σ) {i : Nat} (h : dk rg i) {index : Nat} (fl : mp_FP cl_L wt_L own index 0 1 .int false) {v : Int32} (hdg : decode cc pc = .ok (.putfield index, 3))
    (kk : ∀ (σ1 : mp_M), Lay ar ad rg pl (mu V 37 i v) M σ1 → ∀ (H1 : Heap) (locs1 : List Loc), HH D base σ1 H1 → va_S (mp_A base) H0 H1 locs1 → W p l e R s m args below meth c H1 locs1 cells slots Q (F0 m (pc + 3) ls rest)) : W p l e R s m args below meth c H locs cells slots Q (F0 m pc ls (.int v :: .ref (ad 12 i) :: rest)) :=
  kp_ (n := 37) (j := i) x hH hS0 hL (LvD (by decide) (by decide) h) (la12 hL h) fl (by simp) (by simp [fc, mu]) (by decide +kernel) rfl hdg kk
theorem kp_38 (x : XX D ar p s m args c cc nL own) (hH : HH D base σ H) (hS0 : va_S (mp_A base) H0 H locs) (hL : Lay ar ad rg pl V M σ) {i : Nat} (h : dk rg i) {index : Nat} (fl : mp_FP cl_L wt_L own index 0 2 .int false) {v : Int32} (hdg : decode cc pc = .ok (.putfield index, 3))
    (kk : ∀ (σ1 : mp_M), Lay ar ad rg pl (mu V 38 i v) M σ1 → ∀ (H1 : Heap) (locs1 : List Loc), HH D base σ1 H1 → va_S (mp_A base) H0 H1 locs1 → W p l e R s m args below meth c H1 locs1 cells slots Q (F0 m (pc + 3) ls rest)) : W p l e R s m args below meth c H locs cells slots Q (F0 m pc ls (.int v :: .ref (ad 12 i) :: rest)) :=
  kp_ (n := 38) (j := i) x hH hS0 hL (LvD (by decide) (by decide) h) (la12 hL h) fl (by simp) (by simp [fc, mu]) (by decide +kernel) rfl hdg kk
theorem kp_39 (x : XX D ar p s m args c cc nL own) (hH : HH D base σ H) (hS0 : va_S (mp_A base) H0 H locs) (hL : Lay ar ad rg pl V M σ) {i : Nat} (h : dk rg i) {index : Nat} (fl : mp_FP cl_L wt_L own index 0 3 .int false) {v : Int32} (hdg : decode cc pc = .ok (.putfield index, 3))
    (kk : ∀ (σ1 : mp_M), Lay ar ad rg pl (mu V 39 i v) M σ1 → ∀ (H1 : Heap) (locs1 : List Loc), HH D base σ1 H1 → va_S (mp_A base) H0 H1 locs1 → W p l e R s m args below meth c H1 locs1 cells slots Q (F0 m (pc + 3) ls rest)) : W p l e R s m args below meth c H locs cells slots Q (F0 m pc ls (.int v :: .ref (ad 12 i) :: rest)) :=
  kp_ (n := 39) (j := i) x hH hS0 hL (LvD (by decide) (by decide) h) (la12 hL h) fl (by simp) (by simp [fc, mu]) (by decide +kernel) rfl hdg kk
theorem kp_40 (x : XX D ar p s m args c cc nL own) (hH : HH D base σ H) (hS0 : va_S (mp_A base) H0 H locs) (hL : Lay ar ad rg pl V M σ) {i : Nat} (h : dk rg i) {index : Nat} (fl : mp_FP cl_L wt_L own index 0 4 .int false) {v : Int32} (hdg : decode cc pc = .ok (.putfield index, 3))
    (kk : ∀ (σ1 : mp_M), Lay ar ad rg pl (mu V 40 i v) M σ1 → ∀ (H1 : Heap) (locs1 : List Loc), HH D base σ1 H1 → va_S (mp_A base) H0 H1 locs1 → W p l e R s m args below meth c H1 locs1 cells slots Q (F0 m (pc + 3) ls rest)) : W p l e R s m args below meth c H locs cells slots Q (F0 m pc ls (.int v :: .ref (ad 12 i) :: rest)) :=
  kp_ (n := 40) (j := i) x hH hS0 hL (LvD (by decide) (by decide) h) (la12 hL h) fl (by simp) (by simp [fc, mu]) (by decide +kernel) rfl hdg kk
theorem kp_41 (x : XX D ar p s m args c cc nL own) (hH : HH D base σ H) (hS0 : va_S (mp_A base) H0 H locs) (hL : Lay ar ad rg pl V M σ) {i : Nat} (h : dk rg i) {index : Nat} (fl : mp_FP cl_L wt_L own index 0 5 .int false) {v : Int32} (hdg : decode cc pc = .ok (.putfield index, 3))
    (kk : ∀ (σ1 : mp_M), Lay ar ad rg pl (mu V 41 i v) M σ1 → ∀ (H1 : Heap) (locs1 : List Loc), HH D base σ1 H1 → va_S (mp_A base) H0 H1 locs1 → W p l e R s m args below meth c H1 locs1 cells slots Q (F0 m (pc + 3) ls rest)) : W p l e R s m args below meth c H locs cells slots Q (F0 m pc ls (.int v :: .ref (ad 12 i) :: rest)) :=
  kp_ (n := 41) (j := i) x hH hS0 hL (LvD (by decide) (by decide) h) (la12 hL h) fl (by simp) (by simp [fc, mu]) (by decide +kernel) rfl hdg kk
theorem kp_42 (x : XX D ar p s m args c cc nL own) (hH : HH D base σ H) (hS0 : va_S (mp_A base) H0 H locs) (hL : Lay ar ad rg pl V M σ) {i : Nat} (h : dk rg i) {index : Nat} (fl : mp_FP cl_L wt_L own index 0 6 .int false) {v : Int32} (hdg : decode cc pc = .ok (.putfield index, 3))
    (kk : ∀ (σ1 : mp_M), Lay ar ad rg pl (mu V 42 i v) M σ1 → ∀ (H1 : Heap) (locs1 : List Loc), HH D base σ1 H1 → va_S (mp_A base) H0 H1 locs1 → W p l e R s m args below meth c H1 locs1 cells slots Q (F0 m (pc + 3) ls rest)) : W p l e R s m args below meth c H locs cells slots Q (F0 m pc ls (.int v :: .ref (ad 12 i) :: rest)) :=
  kp_ (n := 42) (j := i) x hH hS0 hL (LvD (by decide) (by decide) h) (la12 hL h) fl (by simp) (by simp [fc, mu]) (by decide +kernel) rfl hdg kk
theorem kp_43 (x : XX D ar p s m args c cc nL own) (hH : HH D base σ H) (hS0 : va_S (mp_A base) H0 H locs) (hL : Lay ar ad rg pl V M σ) {i : Nat} (h : dk rg i) {index : Nat} (fl : mp_FP cl_L wt_L own index 0 7 .int false) {v : Int32} (hdg : decode cc pc = .ok (.putfield index, 3))
    (kk : ∀ (σ1 : mp_M), Lay ar ad rg pl (mu V 43 i v) M σ1 → ∀ (H1 : Heap) (locs1 : List Loc), HH D base σ1 H1 → va_S (mp_A base) H0 H1 locs1 → W p l e R s m args below meth c H1 locs1 cells slots Q (F0 m (pc + 3) ls rest)) : W p l e R s m args below meth c H locs cells slots Q (F0 m pc ls (.int v :: .ref (ad 12 i) :: rest)) :=
  kp_ (n := 43) (j := i) x hH hS0 hL (LvD (by decide) (by decide) h) (la12 hL h) fl (by simp) (by simp [fc, mu]) (by decide +kernel) rfl hdg kk
theorem kp_22 (x : XX D ar p s m args c cc nL own) (hH : HH D base σ H) (hS0 : va_S (mp_A base) H0 H locs) (hL : Lay ar ad rg pl V M σ) {index : Nat} (fl : mp_FP cl_L wt_L own index 7 22 .int false) {v : Int32} (hdg : decode cc pc = .ok (.putfield index, 3))
    (kk : ∀ (σ1 : mp_M), Lay ar ad rg pl V (mu M 22 0 v) σ1 → ∀ (H1 : Heap) (locs1 : List Loc), HH D base σ1 H1 → va_S (mp_A base) H0 H1 locs1 → W p l e R s m args below meth c H1 locs1 cells slots Q (F0 m (pc + 3) ls rest)) : W p l e R s m args below meth c H locs cells slots Q (F0 m pc ls (.int v :: .ref (ad 13 0) :: rest)) :=
  kpM_ (n := 22) (j := 0) x hH hS0 hL (LvM) (la13 hL) fl (by simp) (by simp [fc, mu]) (by decide +kernel) rfl hdg kk
theorem kp_24 (x : XX D ar p s m args c cc nL own) (hH : HH D base σ H) (hS0 : va_S (mp_A base) H0 H locs) (hL : Lay ar ad rg pl V M σ) {index : Nat} (fl : mp_FP cl_L wt_L own index 7 24 .int false) {v : Int32} (hdg : decode cc pc = .ok (.putfield index, 3))
    (kk : ∀ (σ1 : mp_M), Lay ar ad rg pl V (mu M 24 0 v) σ1 → ∀ (H1 : Heap) (locs1 : List Loc), HH D base σ1 H1 → va_S (mp_A base) H0 H1 locs1 → W p l e R s m args below meth c H1 locs1 cells slots Q (F0 m (pc + 3) ls rest)) : W p l e R s m args below meth c H locs cells slots Q (F0 m pc ls (.int v :: .ref (ad 13 0) :: rest)) :=
  kpM_ (n := 24) (j := 0) x hH hS0 hL (LvM) (la13 hL) fl (by simp) (by simp [fc, mu]) (by decide +kernel) rfl hdg kk
theorem kp_25 (x : XX D ar p s m args c cc nL own) (hH : HH D base σ H) (hS0 : va_S (mp_A base) H0 H locs) (hL : Lay ar ad rg pl V M σ) {index : Nat} (fl : mp_FP cl_L wt_L own index 7 25 .int false) {v : Int32} (hdg : decode cc pc = .ok (.putfield index, 3))
    (kk : ∀ (σ1 : mp_M), Lay ar ad rg pl V (mu M 25 0 v) σ1 → ∀ (H1 : Heap) (locs1 : List Loc), HH D base σ1 H1 → va_S (mp_A base) H0 H1 locs1 → W p l e R s m args below meth c H1 locs1 cells slots Q (F0 m (pc + 3) ls rest)) : W p l e R s m args below meth c H locs cells slots Q (F0 m pc ls (.int v :: .ref (ad 13 0) :: rest)) :=
  kpM_ (n := 25) (j := 0) x hH hS0 hL (LvM) (la13 hL) fl (by simp) (by simp [fc, mu]) (by decide +kernel) rfl hdg kk
theorem kp_26 (x : XX D ar p s m args c cc nL own) (hH : HH D base σ H) (hS0 : va_S (mp_A base) H0 H locs) (hL : Lay ar ad rg pl V M σ) {index : Nat} (fl : mp_FP cl_L wt_L own index 7 26 .int false) {v : Int32} (hdg : decode cc pc = .ok (.putfield index, 3))
    (kk : ∀ (σ1 : mp_M), Lay ar ad rg pl V (mu M 26 0 v) σ1 → ∀ (H1 : Heap) (locs1 : List Loc), HH D base σ1 H1 → va_S (mp_A base) H0 H1 locs1 → W p l e R s m args below meth c H1 locs1 cells slots Q (F0 m (pc + 3) ls rest)) : W p l e R s m args below meth c H locs cells slots Q (F0 m pc ls (.int v :: .ref (ad 13 0) :: rest)) :=
  kpM_ (n := 26) (j := 0) x hH hS0 hL (LvM) (la13 hL) fl (by simp) (by simp [fc, mu]) (by decide +kernel) rfl hdg kk
theorem kp_27 (x : XX D ar p s m args c cc nL own) (hH : HH D base σ H) (hS0 : va_S (mp_A base) H0 H locs) (hL : Lay ar ad rg pl V M σ) {index : Nat} (fl : mp_FP cl_L wt_L own index 7 27 .int false) {v : Int32} (hdg : decode cc pc = .ok (.putfield index, 3))
    (kk : ∀ (σ1 : mp_M), Lay ar ad rg pl V (mu M 27 0 v) σ1 → ∀ (H1 : Heap) (locs1 : List Loc), HH D base σ1 H1 → va_S (mp_A base) H0 H1 locs1 → W p l e R s m args below meth c H1 locs1 cells slots Q (F0 m (pc + 3) ls rest)) : W p l e R s m args below meth c H locs cells slots Q (F0 m pc ls (.int v :: .ref (ad 13 0) :: rest)) :=
  kpM_ (n := 27) (j := 0) x hH hS0 hL (LvM) (la13 hL) fl (by simp) (by simp [fc, mu]) (by decide +kernel) rfl hdg kk
theorem kst_ (x : XX D ar p s m args c cc nL own) (hH : HH D base σ H) (hS0 : va_S (mp_A base) H0 H locs) (hL : Lay ar ad rg pl V M σ) {kd i n : Nat} (hl : Lv rg kd i) {N : Nat} (hc : fc ar ad rg pl V M kd i = .inl (ar 0, N, .inl (V n))) {j : Nat} {v : Int32} (hc2 : fc ar ad rg pl (mu V n j v) M kd i = .inl (ar 0, N, .inl (mu V n j v n))) (hj : j < N) (hN : N < 2 ^ 31) (hk : kd = ok n) (hi : i = oi n j) (hdg : decode cc pc = .ok (.iastore, 1))
    (kk : ∀ (σ1 : mp_M), Lay ar ad rg pl (mu V n j v) M σ1 → ∀ (H1 : Heap) (locs1 : List Loc), HH D base σ1 H1 → va_S (mp_A base) H0 H1 locs1 → W p l e R s m args below meth c H1 locs1 cells slots Q (F0 m (pc + 1) ls rest)) : W p l e R s m args below meth c H locs cells slots Q (F0 m pc ls (.int v :: .int (nI j) :: .ref (ad kd i) :: rest)) :=
  mn_ast x hH hS0 ((hL.1 kd i hl).trans (congrArg some hc)) hj hN hdg (fun σ1 f o H1 locs1 h1 h2 => kk σ1 (lay_mu hL hl (f.trans (by rw [hc2, mu_row])) o hk hi) H1 locs1 h1 h2)
theorem kstM_ (x : XX D ar p s m args c cc nL own) (hH : HH D base σ H) (hS0 : va_S (mp_A base) H0 H locs) (hL : Lay ar ad rg pl V M σ) {kd i n : Nat} (hl : Lv rg kd i) {N : Nat} (hc : fc ar ad rg pl V M kd i = .inl (ar 0, N, .inl (M n))) {j : Nat} {v : Int32} (hc2 : fc ar ad rg pl V (mu M n j v) kd i = .inl (ar 0, N, .inl (mu M n j v n))) (hj : j < N) (hN : N < 2 ^ 31) (hk : kd = ok n) (hi : i = oi n j) (hdg : decode cc pc = .ok (.iastore, 1))
    (kk : ∀ (σ1 : mp_M), Lay ar ad rg pl V (mu M n j v) σ1 → ∀ (H1 : Heap) (locs1 : List Loc), HH D base σ1 H1 → va_S (mp_A base) H0 H1 locs1 → W p l e R s m args below meth c H1 locs1 cells slots Q (F0 m (pc + 1) ls rest)) : W p l e R s m args below meth c H locs cells slots Q (F0 m pc ls (.int v :: .int (nI j) :: .ref (ad kd i) :: rest)) :=
  mn_ast x hH hS0 ((hL.1 kd i hl).trans (congrArg some hc)) hj hN hdg (fun σ1 f o H1 locs1 h1 h2 => kk σ1 (lay_muM hL hl (f.trans (by rw [hc2, mu_row])) o hk hi) H1 locs1 h1 h2)
/-- the model's arrays of numbers -/
theorem ka_ld (x : XX D ar p s m args c cc nL own) (hH : HH D base σ H) (hL : Lay ar ad rg pl V M σ) (n : Nat) {j : Nat} (hn : n < 24 ∧ n ≠ 22) (hz : ak n = 0) (hj : j < as_ n) (hb : as_ n < 2 ^ 31) (hdg : decode cc pc = .ok (.iaload, 1))
    (kk : W p l e R s m args below meth c H locs cells slots Q (F0 m (pc + 1) ls (.int (M n j) :: rest))) : W p l e R s m args below meth c H locs cells slots Q (F0 m pc ls (.int (nI j) :: .ref (ad 14 n) :: rest)) :=
  mn_ald x hH (n := as_ n) (f := M n) (by rw [la14 hL hn, hz]) hj hb hdg kk
theorem ka_st (x : XX D ar p s m args c cc nL own) (hH : HH D base σ H) (hS0 : va_S (mp_A base) H0 H locs) (hL : Lay ar ad rg pl V M σ) (n : Nat) {j : Nat} {v : Int32} (hn : n < 24 ∧ n ≠ 22) (hz : ak n = 0) (hj : j < as_ n) (hb : as_ n < 2 ^ 31) (hdg : decode cc pc = .ok (.iastore, 1))
    (kk : ∀ (σ1 : mp_M), Lay ar ad rg pl V (mu M n j v) σ1 → ∀ (H1 : Heap) (locs1 : List Loc), HH D base σ1 H1 → va_S (mp_A base) H0 H1 locs1 → W p l e R s m args below meth c H1 locs1 cells slots Q (F0 m (pc + 1) ls rest)) : W p l e R s m args below meth c H locs cells slots Q (F0 m pc ls (.int v :: .int (nI j) :: .ref (ad 14 n) :: rest)) :=
  kstM_ (n := n) x hH hS0 hL (LvA hn) (N := as_ n) (by show (.inl (ar (ak n), as_ n, .inl (M n)) : va_E) = _; rw [hz]) (by show (.inl (ar (ak n), as_ n, .inl (mu M n j v n)) : va_E) = _; rw [hz]) hj hb (ok14 hn).symm (oi14 j hn).symm hdg kk
/-- the model's array of booleans -/
theorem kz_ld (x : XX D ar p s m args c cc nL own) (hH : HH D base σ H) (hL : Lay ar ad rg pl V M σ) {j : Nat} (hj : j < 25) (hdg : decode cc pc = .ok (.baload, 1))
    (kk : W p l e R s m args below meth c H locs cells slots Q (F0 m (pc + 1) ls (.int (M 2 j) :: rest))) : W p l e R s m args below meth c H locs cells slots Q (F0 m pc ls (.int (nI j) :: .ref (ad 14 2) :: rest)) :=
  va_zald x.1 x.2.1 x.2.2.2.2.2 (hH.one (la14 hL (i := 2) (by decide))) 0 2 rfl rfl (vp_in_nI hj (by decide)) hdg (by rw [nI_clamp (by omega)]; exact kk)
theorem kz_st (x : XX D ar p s m args c cc nL own) (hH : HH D base σ H) (hS0 : va_S (mp_A base) H0 H locs) (hL : Lay ar ad rg pl V M σ) {j : Nat} {v : Int32} (hv : vp_nar .boolean v = v) (hj : j < 25) (hdg : decode cc pc = .ok (.bastore, 1))
    (kk : ∀ (σ1 : mp_M), Lay ar ad rg pl V (mu M 2 j v) σ1 → ∀ (H1 : Heap) (locs1 : List Loc), HH D base σ1 H1 → va_S (mp_A base) H0 H1 locs1 → W p l e R s m args below meth c H1 locs1 cells slots Q (F0 m (pc + 1) ls rest)) : W p l e R s m args below meth c H locs cells slots Q (F0 m pc ls (.int v :: .int (nI j) :: .ref (ad 14 2) :: rest)) := by
  exact mn_zast x hH hS0 (n := 25) (f := M 2) (la14 hL (i := 2) (by decide)) hv hj (by decide) hdg (fun σ1 f o H1 locs1 h1 h2 => kk σ1 (lay_muM (n := 2) (j := j) hL (LvA (i := 2) (by decide)) (f.trans (by rw [← mu_row]; rfl)) o (by decide +kernel) (oi14 j (by decide)).symm) H1 locs1 h1 h2)
theorem krd_ld (x : XX D ar p s m args c cc nL own) (hH : HH D base σ H) (hL : Lay ar ad rg pl V M σ) {i j : Nat} (h : dk rg i) (hj : j < 12) (hdg : decode cc pc = .ok (.iaload, 1))
    (kk : W p l e R s m args below meth c H locs cells slots Q (F0 m (pc + 1) ls (.int (V (100 + i) j) :: rest))) : W p l e R s m args below meth c H locs cells slots Q (F0 m pc ls (.int (nI j) :: .ref (ad 11 i) :: rest)) :=
  mn_ald x hH (la11 hL h) hj (by decide) hdg kk
theorem krd_st (x : XX D ar p s m args c cc nL own) (hH : HH D base σ H) (hS0 : va_S (mp_A base) H0 H locs) (hL : Lay ar ad rg pl V M σ) {i j : Nat} {v : Int32} (h : dk rg i) (hj : j < 12) (hdg : decode cc pc = .ok (.iastore, 1))
    (kk : ∀ (σ1 : mp_M), Lay ar ad rg pl (mu V (100 + i) j v) M σ1 → ∀ (H1 : Heap) (locs1 : List Loc), HH D base σ1 H1 → va_S (mp_A base) H0 H1 locs1 → W p l e R s m args below meth c H1 locs1 cells slots Q (F0 m (pc + 1) ls rest)) : W p l e R s m args below meth c H locs cells slots Q (F0 m pc ls (.int v :: .int (nI j) :: .ref (ad 11 i) :: rest)) := by
  have hd := dk_le h; exact kst_ (n := 100 + i) x hH hS0 hL (LvD (by decide) (by decide) h) (N := 12) rfl rfl hj (by decide) (ok11 hd).symm (oi11 j hd).symm hdg kk
theorem krt_ld (x : XX D ar p s m args c cc nL own) (hH : HH D base σ H) (hL : Lay ar ad rg pl V M σ) {i j : Nat} (h : i < 102) (hj : j < 12) (hdg : decode cc pc = .ok (.iaload, 1))
    (kk : W p l e R s m args below meth c H locs cells slots Q (F0 m (pc + 1) ls (.int (V (1000 + i) j) :: rest))) : W p l e R s m args below meth c H locs cells slots Q (F0 m pc ls (.int (nI j) :: .ref (ad 6 i) :: rest)) :=
  mn_ald x hH (la6 hL h) hj (by decide) hdg kk
theorem krt_st (x : XX D ar p s m args c cc nL own) (hH : HH D base σ H) (hS0 : va_S (mp_A base) H0 H locs) (hL : Lay ar ad rg pl V M σ) {i j : Nat} {v : Int32} (h : i < 102) (hj : j < 12) (hdg : decode cc pc = .ok (.iastore, 1))
    (kk : ∀ (σ1 : mp_M), Lay ar ad rg pl (mu V (1000 + i) j v) M σ1 → ∀ (H1 : Heap) (locs1 : List Loc), HH D base σ1 H1 → va_S (mp_A base) H0 H1 locs1 → W p l e R s m args below meth c H1 locs1 cells slots Q (F0 m (pc + 1) ls rest)) : W p l e R s m args below meth c H locs cells slots Q (F0 m pc ls (.int v :: .int (nI j) :: .ref (ad 6 i) :: rest)) := by
  exact kst_ (n := 1000 + i) x hH hS0 hL (LvT (by decide) (by decide) h) (N := 12) rfl rfl hj (by decide) (ok6 i).symm (oi6 i j).symm hdg kk
end KRW
