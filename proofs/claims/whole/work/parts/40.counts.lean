/-! PROMISES, ACCEPTANCES and REFUSALS: class and model count alike. -/
section SCT
variable {rg : Nat → Bool} {pl : Nat → Nat} {V M V' M' : fV} {f n : Nat}
theorem shl_1 {k : Nat} (h : k < 25) : nI 1 <<< (nI k &&& 31) = nI (2 ^ k) := by
  have : k = 0 ∨ k = 1 ∨ k = 2 ∨ k = 3 ∨ k = 4 ∨ k = 5 ∨ k = 6 ∨ k = 7 ∨ k = 8 ∨ k = 9 ∨ k = 10 ∨ k = 11 ∨ k = 12 ∨ k = 13 ∨ k = 14 ∨ k = 15 ∨ k = 16 ∨ k = 17 ∨ k = 18 ∨ k = 19 ∨ k = 20 ∨ k = 21 ∨ k = 22 ∨ k = 23 ∨ k = 24 := by omega
  rcases this with rfl | rfl | rfl | rfl | rfl | rfl | rfl | rfl | rfl | rfl | rfl | rfl | rfl | rfl | rfl | rfl | rfl | rfl | rfl | rfl | rfl | rfl | rfl | rfl | rfl <;> decide +kernel
theorem nI_bit (a : Nat) {i : Nat} (hi : i < 32) : (nI a).toBitVec.getLsbD i = a.testBit i := by
  show (BitVec.ofNat 32 a).getLsbD i = _
  rw [BitVec.getLsbD_ofNat]
  simp [hi]
theorem nI_or (a b : Nat) : nI a ||| nI b = nI (a ||| b) := by
  apply Int32.toBitVec_inj.mp
  apply BitVec.eq_of_getLsbD_eq
  intro i hi
  rw [Int32.toBitVec_or, BitVec.getLsbD_or, nI_bit _ hi, nI_bit _ hi, nI_bit _ hi, Nat.testBit_or]
theorem ans_or {an k : Nat} (h : an < 2 ^ 25) (hk : k < 25) : ∃ an', an' < 2 ^ 25 ∧ nI an ||| nI 1 <<< (nI k &&& 31) = nI an' := by
  refine ⟨an ||| 2 ^ k, Nat.or_lt_two_pow h (Nat.pow_lt_pow_right (by decide) hk), ?_⟩
  rw [shl_1 hk, nI_or]
theorem mal_26 {a dc fr b0 : Nat} {kk su nu mo sp dy : Int32} (j : Nat) : mal M n a dc fr b0 kk su nu mo sp dy j 26 0 = M 26 0 + nI j := by
  induction j with
  | zero => show M 26 0 = M 26 0 + nI 0; rw [nI_0, Int32.add_zero]
  | succ j ih => exact msn_26.trans (by rw [ih, Int32.add_assoc, nI_add])
theorem nI_nz {k : Nat} (h : k < 2 ^ 31) : ¬ nI (k + 1) = 0 ∨ k + 1 = 2 ^ 31 := by
  by_cases h2 : k + 1 = 2 ^ 31
  · exact Or.inr h2
  · exact Or.inl (nI_ne0 (by omega) (by omega))
noncomputable def mpe (M : fV) (n a dc s0 b0 fr su nu : Nat) : fV := if M 11 a = 0 ∨ ¬ M 11 a = nI su then M else if ¬ nI nu = M 14 a ∨ ¬ M 15 a = nI 1 then M else mpb (mu M 16 a (M 16 a ||| nI 1 <<< (nI fr &&& 31))) n a dc s0 b0 (nI su) (nI nu)
noncomputable def mce (M : fV) (a dc fr su nu : Nat) : fV := if M 11 a = 0 ∨ ¬ M 11 a = nI su then M else if ¬ nI nu = M 14 a ∨ ¬ M 15 a = nI 2 then M else if hwm (M 16 a ||| nI 1 <<< (nI fr &&& 31)) = 0 then mu M 16 a (M 16 a ||| nI 1 <<< (nI fr &&& 31)) else mln (mu M 16 a (M 16 a ||| nI 1 <<< (nI fr &&& 31))) a dc (M 12 a) (M 13 a)
def mre (M : fV) (a su mo : Nat) : fV := if M 11 a = 0 ∨ ¬ M 11 a = nI su then M else if M 20 a < nI mo then mu M 20 a (nI mo) else M
theorem sca_40 {d t : Nat} : sca V d t 40 d = V 40 d ||| nI 1 <<< (V 45 t &&& 31) := by
  unfold sca
  split
  · rw [mu_k (by decide), mu_k (by decide), mu_s]
  · exact mu_s
theorem sca_x {d t k i : Nat} (h : k ≠ 40 ∧ k ≠ 42 ∧ k ≠ 43) : sca V d t k i = V k i := by
  unfold sca
  split
  · rw [mu_k (by omega), mu_k (by omega), mu_k (by omega)]
  · exact mu_k (by omega)
theorem SIM_cp {s0 b0 dc pr ac g kd fr su nu mo c2 t : Nat} (h : INV rg pl V M f n) (hs : s0 < 25) (hb : b0 < 20) (hr : rg b0 = true) (hD : DKv V M (20 * s0 + b0) s0 b0 dc pr ac g) (hA : AKv V M (20 * s0 + b0) s0 dc) (hk : LTk rg kd fr s0 b0 su nu mo c2) (hkd : kd = 2)
    (v45 : V 45 t = nI fr) (v48 : V 48 t = nI su) (v49 : V 49 t = nI nu) (v50 : V 50 t = nI mo) (hm6 : M 23 6 = nI mo) (hq7 : PQ (V 51 t) (M 23 7) (M 23 8) (kd = 3 ∨ kd = 2 ∧ 0 < mo)) :
    ∃ n', INV rg pl (scp pl f n dc V (20 * s0 + b0) t) (mpe M n (20 * s0 + b0) dc s0 b0 fr su nu) f n' ∧ mpe M n (20 * s0 + b0) dc s0 b0 fr su nu 26 0 = M 26 0 + scr V (20 * s0 + b0) t := by
  obtain ⟨q1, q2, q3, q4, q5, q6⟩ := id hD
  obtain ⟨k1, k2, k3, k4, k5, k6, k7, k8, k9, k10, k11, k12, k13⟩ := hk
  obtain ⟨⟨a36, a38, a39, a40⟩, hAA⟩ := id hA
  have hz : ∀ v : Int32, v = v + nI 0 := fun v => by rw [nI_0, Int32.add_zero]
  have hnone : wts V (20 * s0 + b0) t (nI 1) = 0 → mpe M n (20 * s0 + b0) dc s0 b0 fr su nu = M → ∃ n', INV rg pl (scp pl f n dc V (20 * s0 + b0) t) (mpe M n (20 * s0 + b0) dc s0 b0 fr su nu) f n' ∧ mpe M n (20 * s0 + b0) dc s0 b0 fr su nu 26 0 = M 26 0 + scr V (20 * s0 + b0) t := by
    intro e1 e2
    refine ⟨n, ?_, ?_⟩
    · rw [e2]; unfold scp; rw [if_pos e1]; exact h
    · rw [e2]; unfold scr; rw [if_pos e1]; exact hz _
  rcases hAA with hz0 | ⟨⟨hd12, h11, h2s⟩, ⟨nu', hn1, hn2, h14⟩, ⟨an, han, h16⟩, hpp, ⟨rf, hrf, h41, h20⟩, hph⟩
  · refine hnone ?_ ?_
    · unfold wts; rw [if_neg]; · rfl
      intro z; have := z.1; rw [a39, hz0.2.2.1] at this; exact absurd this (by decide +kernel)
    · unfold mpe; rw [if_pos (Or.inl (hz0.1.trans nI_0))]
  · have h11n : ¬ M 11 (20 * s0 + b0) = 0 := by rw [h11]; exact nI_ne0 (by omega) (by omega)
    by_cases hw : M 15 (20 * s0 + b0) = nI 1 ∧ su = dc + 1 ∧ nu' = nu
    · obtain ⟨h15, hsu, hnu⟩ := hw
      subst hnu
      have hwt : ¬ wts V (20 * s0 + b0) t (nI 1) = 0 := by
        unfold wts; rw [if_pos ⟨a39.trans h15, by rw [v48, a36, h11, hsu], by rw [v49, a38, h14]⟩]; decide +kernel
      obtain ⟨bn, hbn, h42, h17, hb43⟩ : ∃ bn, bn ≤ 25024 ∧ V 42 (20 * s0 + b0) = nI bn ∧ M 17 (20 * s0 + b0) = nI bn ∧ (bn = 0 ∨ PR2 (V 43 (20 * s0 + b0)) (M 18 (20 * s0 + b0)) (M 19 (20 * s0 + b0))) := by
        rcases hph with z | z
        · rw [h15] at z; exact absurd z (by decide +kernel)
        · exact z.2
      obtain ⟨an', han', hor⟩ := ans_or han k3
      have hL : mpe M n (20 * s0 + b0) dc s0 b0 fr su nu' = mpb (mu M 16 (20 * s0 + b0) (nI an')) n (20 * s0 + b0) dc s0 b0 (nI su) (nI nu') := by
        unfold mpe
        rw [if_neg (fun z => z.elim h11n (fun z => z (by rw [h11, hsu]))), if_neg (fun z => z.elim (fun z => z h14.symm) (fun z => z h15)), h16, hor]
      have v40 : sca V (20 * s0 + b0) t 40 (20 * s0 + b0) = nI an' := by rw [sca_40, a40, h16, v45, hor]
      -- the counted answer
      have hcnt : ∃ bn', bn' ≤ 25024 ∧ sca V (20 * s0 + b0) t 42 (20 * s0 + b0) = nI bn' ∧ mbt (mu M 16 (20 * s0 + b0) (nI an')) (20 * s0 + b0) 17 (20 * s0 + b0) = nI bn' ∧ (bn' = 0 ∨ PR2 (sca V (20 * s0 + b0) t 43 (20 * s0 + b0)) (mbt (mu M 16 (20 * s0 + b0) (nI an')) (20 * s0 + b0) 18 (20 * s0 + b0)) (mbt (mu M 16 (20 * s0 + b0) (nI an')) (20 * s0 + b0) 19 (20 * s0 + b0))) := by
        by_cases hlt : bn < mo
        · have hlt' : nI bn < nI mo := (nI_ltI (by omega) (by omega)).mpr hlt
          refine ⟨mo, k8, ?_, ?_, Or.inr ?_⟩
          · unfold sca; rw [h42, v50, if_pos hlt', mu_k (by decide), mu_s]
          · unfold mbt; rw [mu_k (by decide), h17, mu_k (by decide), hm6, if_pos hlt', mu_k (by decide), mu_k (by decide), mu_s]
          · unfold sca mbt
            rw [h42, v50, if_pos hlt', mu_s, mu_k (by decide), h17, mu_k (by decide), hm6, if_pos hlt', mu_k (by decide), mu_s, mu_s, mu_k (by decide), mu_k (by decide)]
            rcases hq7 with z | z
            · exact z
            · exact absurd (Or.inr ⟨hkd, by omega⟩) z.1
        · have hlt' : ¬ nI bn < nI mo := fun z => hlt ((nI_ltI (by omega) (by omega)).mp z)
          refine ⟨bn, hbn, ?_, ?_, ?_⟩
          · unfold sca; rw [h42, v50, if_neg hlt', mu_k (by decide), h42]
          · unfold mbt; rw [mu_k (by decide), h17, mu_k (by decide), hm6, if_neg hlt', mu_k (by decide), h17]
          · unfold sca mbt
            rw [h42, v50, if_neg hlt', mu_k (by decide), mu_k (by decide), h17, mu_k (by decide), hm6, if_neg hlt', mu_k (by decide), mu_k (by decide)]
            exact hb43
      obtain ⟨bn', hbn', c42, c17, c43⟩ := hcnt
      have mo_ : ∀ k i, k ≠ 16 ∧ (k < 17 ∨ 19 < k) → mbt (mu M 16 (20 * s0 + b0) (nI an')) (20 * s0 + b0) k i = M k i := fun k i hk => (mbt_o (by omega)).trans (mu_k (by omega))
      have m16 : mbt (mu M 16 (20 * s0 + b0) (nI an')) (20 * s0 + b0) 16 (20 * s0 + b0) = nI an' := (mbt_o (by decide)).trans mu_s
      have hDK2 : DKv (sca V (20 * s0 + b0) t) (mbt (mu M 16 (20 * s0 + b0) (nI an')) (20 * s0 + b0)) (20 * s0 + b0) s0 b0 dc pr ac g := DKv_cg (fun k hk => sca_x (by omega)) (fun j => sca_x (by omega)) (fun k i hk => mo_ k i (by omega)) hD
      have hAK2 : AKv (sca V (20 * s0 + b0) t) (mbt (mu M 16 (20 * s0 + b0) (nI an')) (20 * s0 + b0)) (20 * s0 + b0) s0 dc := by
        refine ⟨⟨?_, ?_, ?_, v40.trans m16.symm⟩, Or.inr ⟨⟨hd12, ?_, ?_⟩, ⟨nu', hn1, hn2, ?_⟩, ⟨an', han', m16⟩, ?_, ⟨rf, hrf, ?_, ?_⟩, Or.inr ⟨?_, bn', hbn', c42, c17, c43⟩⟩⟩
        · rw [sca_x (by decide), mo_ _ _ (by decide)]; exact a36
        · rw [sca_x (by decide), mo_ _ _ (by decide)]; exact a38
        · rw [sca_x (by decide), mo_ _ _ (by decide)]; exact a39
        · rw [mo_ _ _ (by decide)]; exact h11
        · rw [mo_ _ _ (by decide)]; exact h2s
        · rw [mo_ _ _ (by decide)]; exact h14
        · rw [sca_x (by decide), mo_ _ _ (by decide), mo_ _ _ (by decide)]; exact hpp
        · rw [sca_x (by decide)]; exact h41
        · rw [mo_ _ _ (by decide)]; exact h20
        · rw [mo_ _ _ (by decide)]; exact h15
      have hI2 : INV rg pl (sca V (20 * s0 + b0) t) (mbt (mu M 16 (20 * s0 + b0) (nI an')) (20 * s0 + b0)) f n := by
        refine INV_dsk hs hb hr (fun k i h1 h2 => sca_o (by omega)) (fun k i h1 h2 h3 => ?_) ⟨dc, pr, ac, g, hDK2, hAK2⟩ h
        unfold mbt
        split
        · rw [mu_o (by omega), mu_o (by omega), mu_o (by omega), mu_o (by omega)]
        · exact mu_o (by omega)
      have hbits : tec (nI an') = hec (nI an') := bits_1 (fun _ _ => rfl)
      rw [hL]
      unfold scp scr mpb
      rw [if_neg hwt, if_neg hwt, v40, mu_s, hbits]
      by_cases hcol : hec (nI an') = 0
      · rw [if_pos hcol, if_pos hcol, if_pos hcol]
        exact ⟨n, hI2, by rw [mo_ _ _ (by decide)]; exact hz _⟩
      · rw [if_neg hcol, if_neg hcol, if_neg hcol]
        -- phase two
        have o3 : ∀ k i, k ≠ 37 ∧ k ≠ 39 ∧ (k < 40 ∨ 43 < k ∨ k = 41) → sb2 (sca V (20 * s0 + b0) t) (20 * s0 + b0) k i = sca V (20 * s0 + b0) t k i := fun k i hk => by
          unfold sb2 sfg
          rw [mu_k (by omega), mu_k (by omega), mu_k (by omega), mu_k (by omega)]
          split
          · exact mu_k (by omega)
          · rfl
        have u3 : ∀ k i, k ≠ 12 ∧ k ≠ 13 ∧ k ≠ 15 ∧ k ≠ 16 → mb3 (mu M 16 (20 * s0 + b0) (nI an')) (20 * s0 + b0) k i = mbt (mu M 16 (20 * s0 + b0) (nI an')) (20 * s0 + b0) k i := fun k i hk => by
          unfold mb3 mb2
          split
          · rw [mu_k (by omega), mu_k (by omega), mu_k (by omega), mu_k (by omega)]
          · rw [mu_k (by omega), mu_k (by omega)]
        have w39 : sb2 (sca V (20 * s0 + b0) t) (20 * s0 + b0) 39 (20 * s0 + b0) = nI 2 ∧ sb2 (sca V (20 * s0 + b0) t) (20 * s0 + b0) 40 (20 * s0 + b0) = nI 0 := by
          unfold sb2 sfg
          constructor <;> simp [mu]
        have z15 : mb3 (mu M 16 (20 * s0 + b0) (nI an')) (20 * s0 + b0) 15 (20 * s0 + b0) = nI 2 ∧ mb3 (mu M 16 (20 * s0 + b0) (nI an')) (20 * s0 + b0) 16 (20 * s0 + b0) = nI 0 := by
          unfold mb3 mb2
          split
          · constructor
            · rw [mu_k (by decide), mu_k (by decide), mu_k (by decide), mu_s]
            · rw [mu_k (by decide), mu_k (by decide), mu_s]
          · constructor
            · rw [mu_k (by decide), mu_s]
            · rw [mu_s]
        have hpp3 : PR2 (sb2 (sca V (20 * s0 + b0) t) (20 * s0 + b0) 37 (20 * s0 + b0)) (mb3 (mu M 16 (20 * s0 + b0) (nI an')) (20 * s0 + b0) 12 (20 * s0 + b0)) (mb3 (mu M 16 (20 * s0 + b0) (nI an')) (20 * s0 + b0) 13 (20 * s0 + b0)) := by
          unfold sb2 sfg mb3 mb2
          rw [c42, c17, mu_k (by decide), mu_k (by decide), mu_k (by decide), mu_k (by decide)]
          by_cases hb0' : bn' = 0
          · have e0 : ¬ (0 : Int32) < nI bn' := by rw [hb0']; decide +kernel
            rw [if_neg e0, if_neg e0, mu_k (by decide), mu_k (by decide), mu_k (by decide), mu_k (by decide), sca_x (by decide), mo_ _ _ (by decide), mo_ _ _ (by decide)]
            exact hpp
          · have e0 : (0 : Int32) < nI bn' := by
              have := (nI_ltI (a := 0) (b := bn') (by decide) (by omega)).mpr (by omega)
              rw [nI_0] at this
              exact this
            rw [if_pos e0, if_pos e0, mu_s, mu_k (by decide), mu_s, mu_s]
            rcases c43 with z | z
            · exact absurd z hb0'
            · exact z
        have hDK3 : DKv (sb2 (sca V (20 * s0 + b0) t) (20 * s0 + b0)) (mb3 (mu M 16 (20 * s0 + b0) (nI an')) (20 * s0 + b0)) (20 * s0 + b0) s0 b0 dc pr ac g := DKv_cg (fun k hk => o3 k _ (by omega)) (fun j => o3 _ j (by omega)) (fun k i hk => u3 k i (by omega)) hDK2
        have hAK3 : AKv (sb2 (sca V (20 * s0 + b0) t) (20 * s0 + b0)) (mb3 (mu M 16 (20 * s0 + b0) (nI an')) (20 * s0 + b0)) (20 * s0 + b0) s0 dc := by
          refine ⟨⟨?_, ?_, w39.1.trans z15.1.symm, w39.2.trans z15.2.symm⟩, Or.inr ⟨⟨hd12, ?_, ?_⟩, ⟨nu', hn1, hn2, ?_⟩, ⟨0, by decide, z15.2⟩, hpp3, ⟨rf, hrf, ?_, ?_⟩, Or.inl z15.1⟩⟩
          · rw [o3 _ _ (by decide), u3 _ _ (by decide)]; exact hAK2.1.1
          · rw [o3 _ _ (by decide), u3 _ _ (by decide)]; exact hAK2.1.2.1
          · rw [u3 _ _ (by decide), mo_ _ _ (by decide)]; exact h11
          · rw [u3 _ _ (by decide), mo_ _ _ (by decide)]; exact h2s
          · rw [u3 _ _ (by decide), mo_ _ _ (by decide)]; exact h14
          · rw [o3 _ _ (by decide), sca_x (by decide)]; exact h41
          · rw [u3 _ _ (by decide), mo_ _ _ (by decide)]; exact h20
        have hI3 : INV rg pl (sb2 (sca V (20 * s0 + b0) t) (20 * s0 + b0)) (mb3 (mu M 16 (20 * s0 + b0) (nI an')) (20 * s0 + b0)) f n := by
          refine INV_dsk hs hb hr (fun k i h1 h2 => sb2_o (by omega)) (fun k i h1 h2 h3 => ?_) ⟨dc, pr, ac, g, hDK3, hAK3⟩ hI2
          unfold mb3 mb2
          split
          · rw [mu_o (by omega), mu_o (by omega), mu_o (by omega), mu_o (by omega)]
          · rw [mu_o (by omega), mu_o (by omega)]
        refine ⟨_, SIM_toAll (kd := 3) hI3 hDK3 ?_ ?_ (fun to hto => ⟨by decide, by decide, hs, hto, hb, by omega, hn2, Nat.zero_le _, q1.1, fun _ => hr, fun _ => hsu, fun _ => hn1, fun e => absurd (hr.symm.trans e) (by decide)⟩) (Or.inl hpp3), ?_⟩
        · rw [o3 _ _ (by decide), sca_x (by decide), a36, h11, hsu]
        · rw [o3 _ _ (by decide), sca_x (by decide), a38, h14]
        · rw [mal_26, u3 _ _ (by decide), mo_ _ _ (by decide)]
    · refine hnone ?_ ?_
      · unfold wts; rw [if_neg]; · rfl
        rintro ⟨z1, z2, z3⟩
        refine hw ⟨a39.symm.trans z1, ?_, ?_⟩
        · rw [v48, a36, h11] at z2; exact (nI_eq (by omega) (by omega)).mp z2
        · rw [v49, a38, h14] at z3; exact ((nI_eq (by omega) (by omega)).mp z3).symm
      · unfold mpe
        by_cases e1 : M 11 (20 * s0 + b0) = nI su
        · rw [if_neg (fun z => z.elim h11n (fun z => z e1))]
          rw [if_pos]
          by_cases e2 : nI nu = M 14 (20 * s0 + b0)
          · refine Or.inr (fun e3 => hw ⟨e3, ?_, ?_⟩)
            · rw [h11] at e1; exact ((nI_eq (by omega) (by omega)).mp e1).symm
            · rw [h14] at e2; exact ((nI_eq (by omega) (by omega)).mp e2).symm
          · exact Or.inl e2
        · rw [if_pos (Or.inr e1)]
end SCT
