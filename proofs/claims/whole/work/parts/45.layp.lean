/-! LAYOUTS THAT GROW: a new cell gets a role. -/
theorem fa_0 {ar : Nat → ClassId} {ad : Nat → Nat → Nat} {rg : Nat → Bool} {pl : Nat → Nat} {V M : fV} {i k0 i0 q : Nat} (h : ¬ rfs 0 i k0 i0) : fc ar (adu ad k0 i0 q) rg pl V M 0 i = fc ar ad rg pl V M 0 i := by
  show (.inr (6, [.ref (adu ad k0 i0 q 1 0), .ref (adu ad k0 i0 q 9 500), .ref (adu ad k0 i0 q 2 0), .int (V 59 0)]) : va_E) = .inr (6, [.ref (ad 1 0), .ref (ad 9 500), .ref (ad 2 0), .int (V 59 0)])
  rw [adu_o (k := 1) (i := 0) (fun z => h (Or.inl ⟨rfl, Or.inl z.1.symm⟩)), adu_o (k := 9) (i := 500) (fun z => h (Or.inl ⟨rfl, Or.inr (Or.inr ⟨z.1.symm, z.2.symm⟩)⟩)), adu_o (k := 2) (i := 0) (fun z => h (Or.inl ⟨rfl, Or.inr (Or.inl z.1.symm)⟩))]
theorem fa_1 {ar : Nat → ClassId} {ad : Nat → Nat → Nat} {rg : Nat → Bool} {pl : Nat → Nat} {V M : fV} {i k0 i0 q : Nat} (h : ¬ rfs 1 i k0 i0) : fc ar (adu ad k0 i0 q) rg pl V M 1 i = fc ar ad rg pl V M 1 i := by
  have e : (fun y => if rg y = true then some (adu ad k0 i0 q 7 y) else none) = fun y => if rg y = true then some (ad 7 y) else none := by
    funext y
    rw [adu_o (fun z => h (Or.inr (Or.inl ⟨rfl, z.1.symm⟩)))]
  show (.inl (ar 3, 20, .inr (.inr (.inr (.inr (fun y => if rg y = true then some (adu ad k0 i0 q 7 y) else none))))) : va_E) = .inl (ar 3, 20, .inr (.inr (.inr (.inr (fun y => if rg y = true then some (ad 7 y) else none)))))
  rw [e]
theorem fa_2 {ar : Nat → ClassId} {ad : Nat → Nat → Nat} {rg : Nat → Bool} {pl : Nat → Nat} {V M : fV} {i k0 i0 q : Nat} (h : ¬ rfs 2 i k0 i0) : fc ar (adu ad k0 i0 q) rg pl V M 2 i = fc ar ad rg pl V M 2 i := by
  show (.inr (3, [.ref (adu ad k0 i0 q 3 0), .ref (adu ad k0 i0 q 4 101), .ref (adu ad k0 i0 q 4 (pl 0)), .int (V 54 0), .int (V 55 0), .int (V 56 0), .int (V 57 0), .int (V 58 0)]) : va_E) = .inr (3, [.ref (ad 3 0), .ref (ad 4 101), .ref (ad 4 (pl 0)), .int (V 54 0), .int (V 55 0), .int (V 56 0), .int (V 57 0), .int (V 58 0)])
  rw [adu_o (k := 3) (i := 0) (fun z => h (Or.inr (Or.inr (Or.inl ⟨rfl, Or.inl z.1.symm⟩)))), adu_o (k := 4) (i := 101) (fun z => h (Or.inr (Or.inr (Or.inl ⟨rfl, Or.inr z.1.symm⟩)))), adu_o (k := 4) (i := (pl 0)) (fun z => h (Or.inr (Or.inr (Or.inl ⟨rfl, Or.inr z.1.symm⟩))))]
theorem fa_3 {ar : Nat → ClassId} {ad : Nat → Nat → Nat} {rg : Nat → Bool} {pl : Nat → Nat} {V M : fV} {i k0 i0 q : Nat} (h : ¬ rfs 3 i k0 i0) : fc ar (adu ad k0 i0 q) rg pl V M 3 i = fc ar ad rg pl V M 3 i := by
  have e : (fun y => some (adu ad k0 i0 q 4 (pl (y + 1)))) = fun y => some (ad 4 (pl (y + 1))) := by
    funext y
    rw [adu_o (fun z => h (Or.inr (Or.inr (Or.inr (Or.inl ⟨rfl, z.1.symm⟩)))))]
  show (.inl (ar 5, 100, .inr (.inr (.inr (.inr (fun y => some (adu ad k0 i0 q 4 (pl (y + 1)))))))) : va_E) = .inl (ar 5, 100, .inr (.inr (.inr (.inr (fun y => some (ad 4 (pl (y + 1))))))))
  rw [e]
theorem fa_4 {ar : Nat → ClassId} {ad : Nat → Nat → Nat} {rg : Nat → Bool} {pl : Nat → Nat} {V M : fV} {i k0 i0 q : Nat} (h : ¬ rfs 4 i k0 i0) : fc ar (adu ad k0 i0 q) rg pl V M 4 i = fc ar ad rg pl V M 4 i := by
  show (.inr (2, [.ref (adu ad k0 i0 q 5 i), .int (V 44 i), .int (V 45 i), .int (V 46 i), .int (V 47 i), .int (V 48 i), .int (V 49 i), .int (V 50 i), .int (V 51 i)]) : va_E) = .inr (2, [.ref (ad 5 i), .int (V 44 i), .int (V 45 i), .int (V 46 i), .int (V 47 i), .int (V 48 i), .int (V 49 i), .int (V 50 i), .int (V 51 i)])
  rw [adu_o (k := 5) (i := i) (fun z => h (Or.inr (Or.inr (Or.inr (Or.inr (Or.inl ⟨rfl, z.1.symm, z.2.symm⟩))))))]
theorem fa_5 {ar : Nat → ClassId} {ad : Nat → Nat → Nat} {rg : Nat → Bool} {pl : Nat → Nat} {V M : fV} {i k0 i0 q : Nat} (h : ¬ rfs 5 i k0 i0) : fc ar (adu ad k0 i0 q) rg pl V M 5 i = fc ar ad rg pl V M 5 i := by
  show (.inr (4, [.ref (adu ad k0 i0 q 6 i), .int (V 52 i)]) : va_E) = .inr (4, [.ref (ad 6 i), .int (V 52 i)])
  rw [adu_o (k := 6) (i := i) (fun z => h (Or.inr (Or.inr (Or.inr (Or.inr (Or.inr (Or.inl ⟨rfl, z.1.symm, z.2.symm⟩)))))))]
theorem fa_6 {ar : Nat → ClassId} {ad : Nat → Nat → Nat} {rg : Nat → Bool} {pl : Nat → Nat} {V M : fV} {i k0 i0 q : Nat} (h : ¬ rfs 6 i k0 i0) : fc ar (adu ad k0 i0 q) rg pl V M 6 i = fc ar ad rg pl V M 6 i := by
  show (.inl (ar 0, 12, .inl (V (1000 + i))) : va_E) = .inl (ar 0, 12, .inl (V (1000 + i)))
  rfl
theorem fa_7 {ar : Nat → ClassId} {ad : Nat → Nat → Nat} {rg : Nat → Bool} {pl : Nat → Nat} {V M : fV} {i k0 i0 q : Nat} (h : ¬ rfs 7 i k0 i0) : fc ar (adu ad k0 i0 q) rg pl V M 7 i = fc ar ad rg pl V M 7 i := by
  show (.inr (5, [.int (V 60 i), .int (V 61 i), .ref (adu ad k0 i0 q 8 i)]) : va_E) = .inr (5, [.int (V 60 i), .int (V 61 i), .ref (ad 8 i)])
  rw [adu_o (k := 8) (i := i) (fun z => h (Or.inr (Or.inr (Or.inr (Or.inr (Or.inr (Or.inr (Or.inl ⟨rfl, z.1.symm, z.2.symm⟩))))))))]
theorem fa_8 {ar : Nat → ClassId} {ad : Nat → Nat → Nat} {rg : Nat → Bool} {pl : Nat → Nat} {V M : fV} {i k0 i0 q : Nat} (h : ¬ rfs 8 i k0 i0) : fc ar (adu ad k0 i0 q) rg pl V M 8 i = fc ar ad rg pl V M 8 i := by
  have e : (fun y => some (adu ad k0 i0 q 9 (20 * y + i))) = fun y => some (ad 9 (20 * y + i)) := by
    funext y
    rw [adu_o (fun z => h (Or.inr (Or.inr (Or.inr (Or.inr (Or.inr (Or.inr (Or.inr (Or.inl ⟨rfl, z.1.symm, y, z.2.symm⟩)))))))))]
  show (.inl (ar 4, 25, .inr (.inr (.inr (.inr (fun y => some (adu ad k0 i0 q 9 (20 * y + i))))))) : va_E) = .inl (ar 4, 25, .inr (.inr (.inr (.inr (fun y => some (ad 9 (20 * y + i)))))))
  rw [e]
theorem fa_9 {ar : Nat → ClassId} {ad : Nat → Nat → Nat} {rg : Nat → Bool} {pl : Nat → Nat} {V M : fV} {i k0 i0 q : Nat} (h : ¬ rfs 9 i k0 i0) : fc ar (adu ad k0 i0 q) rg pl V M 9 i = fc ar ad rg pl V M 9 i := by
  show (.inr (1, [.int (V 63 i), .int (V 64 i), .ref (adu ad k0 i0 q 10 i), .ref (adu ad k0 i0 q 12 i), .int (V 30 i), .int (V 31 i), .int (V 32 i), .int (V 33 i)]) : va_E) = .inr (1, [.int (V 63 i), .int (V 64 i), .ref (ad 10 i), .ref (ad 12 i), .int (V 30 i), .int (V 31 i), .int (V 32 i), .int (V 33 i)])
  rw [adu_o (k := 10) (i := i) (fun z => h (Or.inr (Or.inr (Or.inr (Or.inr (Or.inr (Or.inr (Or.inr (Or.inr (Or.inl ⟨rfl, Or.inl z.1.symm, z.2.symm⟩)))))))))), adu_o (k := 12) (i := i) (fun z => h (Or.inr (Or.inr (Or.inr (Or.inr (Or.inr (Or.inr (Or.inr (Or.inr (Or.inl ⟨rfl, Or.inr z.1.symm, z.2.symm⟩))))))))))]
theorem fa_10 {ar : Nat → ClassId} {ad : Nat → Nat → Nat} {rg : Nat → Bool} {pl : Nat → Nat} {V M : fV} {i k0 i0 q : Nat} (h : ¬ rfs 10 i k0 i0) : fc ar (adu ad k0 i0 q) rg pl V M 10 i = fc ar ad rg pl V M 10 i := by
  show (.inr (4, [.ref (adu ad k0 i0 q 11 i), .int (V 34 i)]) : va_E) = .inr (4, [.ref (ad 11 i), .int (V 34 i)])
  rw [adu_o (k := 11) (i := i) (fun z => h (Or.inr (Or.inr (Or.inr (Or.inr (Or.inr (Or.inr (Or.inr (Or.inr (Or.inr (Or.inl ⟨rfl, z.1.symm, z.2.symm⟩)))))))))))]
theorem fa_11 {ar : Nat → ClassId} {ad : Nat → Nat → Nat} {rg : Nat → Bool} {pl : Nat → Nat} {V M : fV} {i k0 i0 q : Nat} (h : ¬ rfs 11 i k0 i0) : fc ar (adu ad k0 i0 q) rg pl V M 11 i = fc ar ad rg pl V M 11 i := by
  show (.inl (ar 0, 12, .inl (V (100 + i))) : va_E) = .inl (ar 0, 12, .inl (V (100 + i)))
  rfl
theorem fa_12 {ar : Nat → ClassId} {ad : Nat → Nat → Nat} {rg : Nat → Bool} {pl : Nat → Nat} {V M : fV} {i k0 i0 q : Nat} (h : ¬ rfs 12 i k0 i0) : fc ar (adu ad k0 i0 q) rg pl V M 12 i = fc ar ad rg pl V M 12 i := by
  show (.inr (0, [.int (V 36 i), .int (V 37 i), .int (V 38 i), .int (V 39 i), .int (V 40 i), .int (V 41 i), .int (V 42 i), .int (V 43 i)]) : va_E) = .inr (0, [.int (V 36 i), .int (V 37 i), .int (V 38 i), .int (V 39 i), .int (V 40 i), .int (V 41 i), .int (V 42 i), .int (V 43 i)])
  rfl
theorem fa_13 {ar : Nat → ClassId} {ad : Nat → Nat → Nat} {rg : Nat → Bool} {pl : Nat → Nat} {V M : fV} {i k0 i0 q : Nat} (h : ¬ rfs 13 i k0 i0) : fc ar (adu ad k0 i0 q) rg pl V M 13 i = fc ar ad rg pl V M 13 i := by
  show (.inr (7, [.ref (adu ad k0 i0 q 14 0), .ref (adu ad k0 i0 q 14 1), .ref (adu ad k0 i0 q 14 2), .ref (adu ad k0 i0 q 14 3), .ref (adu ad k0 i0 q 14 4), .ref (adu ad k0 i0 q 14 5), .ref (adu ad k0 i0 q 14 6), .ref (adu ad k0 i0 q 14 7), .ref (adu ad k0 i0 q 14 8), .ref (adu ad k0 i0 q 14 9), .ref (adu ad k0 i0 q 14 10), .ref (adu ad k0 i0 q 14 11), .ref (adu ad k0 i0 q 14 12), .ref (adu ad k0 i0 q 14 13), .ref (adu ad k0 i0 q 14 14), .ref (adu ad k0 i0 q 14 15), .ref (adu ad k0 i0 q 14 16), .ref (adu ad k0 i0 q 14 17), .ref (adu ad k0 i0 q 14 18), .ref (adu ad k0 i0 q 14 19), .ref (adu ad k0 i0 q 14 20), .ref (adu ad k0 i0 q 14 21), .int (M 22 0), .ref (adu ad k0 i0 q 14 23), .int (M 24 0), .int (M 25 0), .int (M 26 0), .int (M 27 0)]) : va_E) = .inr (7, [.ref (ad 14 0), .ref (ad 14 1), .ref (ad 14 2), .ref (ad 14 3), .ref (ad 14 4), .ref (ad 14 5), .ref (ad 14 6), .ref (ad 14 7), .ref (ad 14 8), .ref (ad 14 9), .ref (ad 14 10), .ref (ad 14 11), .ref (ad 14 12), .ref (ad 14 13), .ref (ad 14 14), .ref (ad 14 15), .ref (ad 14 16), .ref (ad 14 17), .ref (ad 14 18), .ref (ad 14 19), .ref (ad 14 20), .ref (ad 14 21), .int (M 22 0), .ref (ad 14 23), .int (M 24 0), .int (M 25 0), .int (M 26 0), .int (M 27 0)])
  rw [adu_o (k := 14) (i := 0) (fun z => h (Or.inr (Or.inr (Or.inr (Or.inr (Or.inr (Or.inr (Or.inr (Or.inr (Or.inr (Or.inr (⟨rfl, z.1.symm⟩)))))))))))), adu_o (k := 14) (i := 1) (fun z => h (Or.inr (Or.inr (Or.inr (Or.inr (Or.inr (Or.inr (Or.inr (Or.inr (Or.inr (Or.inr (⟨rfl, z.1.symm⟩)))))))))))), adu_o (k := 14) (i := 2) (fun z => h (Or.inr (Or.inr (Or.inr (Or.inr (Or.inr (Or.inr (Or.inr (Or.inr (Or.inr (Or.inr (⟨rfl, z.1.symm⟩)))))))))))), adu_o (k := 14) (i := 3) (fun z => h (Or.inr (Or.inr (Or.inr (Or.inr (Or.inr (Or.inr (Or.inr (Or.inr (Or.inr (Or.inr (⟨rfl, z.1.symm⟩)))))))))))), adu_o (k := 14) (i := 4) (fun z => h (Or.inr (Or.inr (Or.inr (Or.inr (Or.inr (Or.inr (Or.inr (Or.inr (Or.inr (Or.inr (⟨rfl, z.1.symm⟩)))))))))))), adu_o (k := 14) (i := 5) (fun z => h (Or.inr (Or.inr (Or.inr (Or.inr (Or.inr (Or.inr (Or.inr (Or.inr (Or.inr (Or.inr (⟨rfl, z.1.symm⟩)))))))))))), adu_o (k := 14) (i := 6) (fun z => h (Or.inr (Or.inr (Or.inr (Or.inr (Or.inr (Or.inr (Or.inr (Or.inr (Or.inr (Or.inr (⟨rfl, z.1.symm⟩)))))))))))), adu_o (k := 14) (i := 7) (fun z => h (Or.inr (Or.inr (Or.inr (Or.inr (Or.inr (Or.inr (Or.inr (Or.inr (Or.inr (Or.inr (⟨rfl, z.1.symm⟩)))))))))))), adu_o (k := 14) (i := 8) (fun z => h (Or.inr (Or.inr (Or.inr (Or.inr (Or.inr (Or.inr (Or.inr (Or.inr (Or.inr (Or.inr (⟨rfl, z.1.symm⟩)))))))))))), adu_o (k := 14) (i := 9) (fun z => h (Or.inr (Or.inr (Or.inr (Or.inr (Or.inr (Or.inr (Or.inr (Or.inr (Or.inr (Or.inr (⟨rfl, z.1.symm⟩)))))))))))), adu_o (k := 14) (i := 10) (fun z => h (Or.inr (Or.inr (Or.inr (Or.inr (Or.inr (Or.inr (Or.inr (Or.inr (Or.inr (Or.inr (⟨rfl, z.1.symm⟩)))))))))))), adu_o (k := 14) (i := 11) (fun z => h (Or.inr (Or.inr (Or.inr (Or.inr (Or.inr (Or.inr (Or.inr (Or.inr (Or.inr (Or.inr (⟨rfl, z.1.symm⟩)))))))))))), adu_o (k := 14) (i := 12) (fun z => h (Or.inr (Or.inr (Or.inr (Or.inr (Or.inr (Or.inr (Or.inr (Or.inr (Or.inr (Or.inr (⟨rfl, z.1.symm⟩)))))))))))), adu_o (k := 14) (i := 13) (fun z => h (Or.inr (Or.inr (Or.inr (Or.inr (Or.inr (Or.inr (Or.inr (Or.inr (Or.inr (Or.inr (⟨rfl, z.1.symm⟩)))))))))))), adu_o (k := 14) (i := 14) (fun z => h (Or.inr (Or.inr (Or.inr (Or.inr (Or.inr (Or.inr (Or.inr (Or.inr (Or.inr (Or.inr (⟨rfl, z.1.symm⟩)))))))))))), adu_o (k := 14) (i := 15) (fun z => h (Or.inr (Or.inr (Or.inr (Or.inr (Or.inr (Or.inr (Or.inr (Or.inr (Or.inr (Or.inr (⟨rfl, z.1.symm⟩)))))))))))), adu_o (k := 14) (i := 16) (fun z => h (Or.inr (Or.inr (Or.inr (Or.inr (Or.inr (Or.inr (Or.inr (Or.inr (Or.inr (Or.inr (⟨rfl, z.1.symm⟩)))))))))))), adu_o (k := 14) (i := 17) (fun z => h (Or.inr (Or.inr (Or.inr (Or.inr (Or.inr (Or.inr (Or.inr (Or.inr (Or.inr (Or.inr (⟨rfl, z.1.symm⟩)))))))))))), adu_o (k := 14) (i := 18) (fun z => h (Or.inr (Or.inr (Or.inr (Or.inr (Or.inr (Or.inr (Or.inr (Or.inr (Or.inr (Or.inr (⟨rfl, z.1.symm⟩)))))))))))), adu_o (k := 14) (i := 19) (fun z => h (Or.inr (Or.inr (Or.inr (Or.inr (Or.inr (Or.inr (Or.inr (Or.inr (Or.inr (Or.inr (⟨rfl, z.1.symm⟩)))))))))))), adu_o (k := 14) (i := 20) (fun z => h (Or.inr (Or.inr (Or.inr (Or.inr (Or.inr (Or.inr (Or.inr (Or.inr (Or.inr (Or.inr (⟨rfl, z.1.symm⟩)))))))))))), adu_o (k := 14) (i := 21) (fun z => h (Or.inr (Or.inr (Or.inr (Or.inr (Or.inr (Or.inr (Or.inr (Or.inr (Or.inr (Or.inr (⟨rfl, z.1.symm⟩)))))))))))), adu_o (k := 14) (i := 23) (fun z => h (Or.inr (Or.inr (Or.inr (Or.inr (Or.inr (Or.inr (Or.inr (Or.inr (Or.inr (Or.inr (⟨rfl, z.1.symm⟩))))))))))))]
theorem fa_14 {ar : Nat → ClassId} {ad : Nat → Nat → Nat} {rg : Nat → Bool} {pl : Nat → Nat} {V M : fV} {i k0 i0 q : Nat} (h : ¬ rfs 14 i k0 i0) : fc ar (adu ad k0 i0 q) rg pl V M 14 i = fc ar ad rg pl V M 14 i := by
  show (.inl (ar (ak i), as_ i, .inl (M i)) : va_E) = .inl (ar (ak i), as_ i, .inl (M i))
  rfl
theorem fc_adu {ar : Nat → ClassId} {ad : Nat → Nat → Nat} {rg : Nat → Bool} {pl : Nat → Nat} {V M : fV} {kd i k0 i0 q : Nat} (h : ¬ rfs kd i k0 i0) : fc ar (adu ad k0 i0 q) rg pl V M kd i = fc ar ad rg pl V M kd i := by
  have hk : kd = 0 ∨ kd = 1 ∨ kd = 2 ∨ kd = 3 ∨ kd = 4 ∨ kd = 5 ∨ kd = 6 ∨ kd = 7 ∨ kd = 8 ∨ kd = 9 ∨ kd = 10 ∨ kd = 11 ∨ kd = 12 ∨ kd = 13 ∨ kd = 14 ∨ 15 ≤ kd := by omega
  rcases hk with rfl | rfl | rfl | rfl | rfl | rfl | rfl | rfl | rfl | rfl | rfl | rfl | rfl | rfl | rfl | h15
  · exact fa_0 h
  · exact fa_1 h
  · exact fa_2 h
  · exact fa_3 h
  · exact fa_4 h
  · exact fa_5 h
  · exact fa_6 h
  · exact fa_7 h
  · exact fa_8 h
  · exact fa_9 h
  · exact fa_10 h
  · exact fa_11 h
  · exact fa_12 h
  · exact fa_13 h
  · exact fa_14 h
  · obtain ⟨j, rfl⟩ : ∃ j, kd = j + 15 := ⟨kd - 15, by omega⟩
    rfl
section LYP
variable {ar : Nat → ClassId} {ad : Nat → Nat → Nat} {rg : Nat → Bool} {pl : Nat → Nat} {V M : fV} {σ σ1 : mp_M} {L : Nat → Nat → Prop}
theorem LayP_ext {k0 i0 q : Nat} (h : LayP L ar ad rg pl V M σ) (h1 : σ q = some (fc ar (adu ad k0 i0 q) rg pl V M k0 i0)) (hne : ∀ kd i, L kd i → ad kd i ≠ q) (hL : ¬ L k0 i0) (hf : ∀ kd i, L kd i → ¬ rfs kd i k0 i0) : LayP (fun kd i => L kd i ∨ (kd = k0 ∧ i = i0)) ar (adu ad k0 i0 q) rg pl V M σ := by
  have hx : ∀ kd i, L kd i → adu ad k0 i0 q kd i = ad kd i := fun kd i hl => adu_o (fun z => hL (by rw [← z.1, ← z.2]; exact hl))
  refine ⟨fun kd i hl => ?_, fun kd i kd' i' hl hl' he => ?_⟩
  · rcases hl with hl | ⟨rfl, rfl⟩
    · rw [hx kd i hl, fc_adu (hf kd i hl)]; exact h.1 kd i hl
    · rw [adu_s]; exact h1
  · rcases hl with hl | ⟨rfl, rfl⟩
    · rcases hl' with hl' | ⟨rfl, rfl⟩
      · rw [hx _ _ hl, hx _ _ hl'] at he; exact h.2 _ _ _ _ hl hl' he
      · rw [hx _ _ hl, adu_s] at he; exact absurd he (hne _ _ hl)
    · rcases hl' with hl' | ⟨rfl, rfl⟩
      · rw [hx _ _ hl', adu_s] at he; exact absurd he.symm (hne _ _ hl')
      · exact ⟨rfl, rfl⟩
/-- other cells are written -/
theorem LayP_keep (h : LayP L ar ad rg pl V M σ) (ho : ∀ kd i, L kd i → σ1 (ad kd i) = σ (ad kd i)) : LayP L ar ad rg pl V M σ1 := ⟨fun kd i hl => (ho kd i hl).trans (h.1 kd i hl), h.2⟩
theorem LayP_sub {L' : Nat → Nat → Prop} (h : LayP L ar ad rg pl V M σ) (hs : ∀ kd i, L' kd i → L kd i) : LayP L' ar ad rg pl V M σ := ⟨fun kd i hl => h.1 kd i (hs kd i hl), fun kd i kd' i' hl hl' => h.2 kd i kd' i' (hs _ _ hl) (hs _ _ hl')⟩
/-- a new cell lies apart from all roles -/
theorem LayP_ne {q : Nat} (h : LayP L ar ad rg pl V M σ) (hq : σ q = none) : ∀ kd i, L kd i → ad kd i ≠ q := fun kd i hl => fr_ne (h.1 kd i hl) hq
end LYP
