/-! LETTERS of each kind: class and model answer alike. -/
section SKD
variable {rg : Nat → Bool} {pl : Nat → Nat} {V M V' M' : fV} {f n : Nat}
def HND (rg : Nat → Bool) (V M : fV) (t kd fr s0 b0 su nu mo c2 : Nat) : Prop := LTv rg V (fun _ i => M 23 i) t 0 kd fr s0 b0 su nu mo c2
theorem HND_out {t kd fr s0 b0 su nu mo c2 : Nat} (h : HND rg V M t kd fr s0 b0 su nu mo c2) : (M 23 0 = nI kd ∧ M 23 1 = nI fr ∧ M 23 2 = nI s0 ∧ M 23 3 = nI b0 ∧ M 23 4 = nI su ∧ M 23 5 = nI nu ∧ M 23 6 = nI mo ∧ M 23 9 = nI c2) ∧ PQ (V 51 t) (M 23 7) (M 23 8) (kd = 3 ∨ kd = 2 ∧ 0 < mo) ∧ ∀ j, j < c2 → PR2 (V (1000 + t) j) (M 23 (10 + 2 * j)) (M 23 (11 + 2 * j)) := by
  obtain ⟨-, -, h3, h4, h5⟩ := h
  refine ⟨h3, h4, fun j hj => ?_⟩
  have := h5 j hj
  rw [Nat.zero_add, Nat.zero_add] at this
  exact this
theorem AKv_cg {a s0 dc : Nat} (hV : ∀ k, 36 ≤ k ∧ k ≤ 43 → V' k a = V k a) (hM : ∀ k, 11 ≤ k ∧ k ≤ 20 → M' k a = M k a) (h2 : M' 2 s0 = M 2 s0) (h : AKv V M a s0 dc) : AKv V' M' a s0 dc := by
  unfold AKv AK0 AK1
  rw [hV 36 (by decide), hV 37 (by decide), hV 38 (by decide), hV 39 (by decide), hV 40 (by decide), hV 41 (by decide), hV 42 (by decide), hV 43 (by decide), hM 11 (by decide), hM 12 (by decide), hM 13 (by decide), hM 14 (by decide), hM 15 (by decide), hM 16 (by decide), hM 17 (by decide), hM 18 (by decide), hM 19 (by decide), hM 20 (by decide), h2]
  exact h
theorem SIM_an {s0 b0 dc pr ac g kd su nu mo fr t : Nat} {k2 sp dy : Int32} (h : INV rg pl V M f n) (hD : DKv V M (20 * s0 + b0) s0 b0 dc pr ac g) (v45 : V 45 t = nI fr) (v46 : V 46 t = nI s0) (v47 : V 47 t = nI b0) (v48 : V 48 t = nI su) (v49 : V 49 t = nI nu) (hk : LTk rg kd s0 fr b0 su nu mo dc) (hq : PQ k2 sp dy (kd = 3 ∨ kd = 2 ∧ 0 < mo)) :
    INV rg pl (san pl f n dc V (20 * s0 + b0) t (nI kd) (nI mo) k2) (msn M n (20 * s0 + b0) dc s0 b0 (nI kd) (nI fr) (nI su) (nI nu) (nI mo) sp dy) f (nx1 n) := by
  unfold san
  rw [v45, v46, v47, v48, v49]
  exact INV_send (INV_dft (fun k i h1 h2 => (mu_o (by omega)).trans ((mu_o (by omega)).trans (swr_o (by omega) (by omega)))) h) hk (DRv_of hD.2.2.2.2.1 hq)
def mae (M : fV) (n a dc kd s0 b0 fr su nu : Nat) : fV :=
  if nI dc < nI su then (if nI su = nI (dc + 1) then (if kd = 3 then mas1 M n a dc s0 b0 (nI fr) (nI su) (nI nu) else mas0 M n a dc s0 b0 (nI fr) (nI su) (nI nu)) else M) else msn M n a dc s0 b0 (nI 6) (nI fr) (nI su) (nI nu) (nI 0) (-1) (-1)
theorem PQ_no {kd mo : Nat} (h : ¬ (kd = 3 ∨ kd = 2 ∧ 0 < mo)) : PQ (-1) (-1) (-1) (kd = 3 ∨ kd = 2 ∧ 0 < mo) := Or.inr ⟨h, rfl, rfl, rfl⟩
theorem SIM_aa {s0 b0 dc pr ac g kd fr su nu mo c2 t : Nat} (h : INV rg pl V M f n) (hs : s0 < 25) (hb : b0 < 20) (hr : rg b0 = true) (hD : DKv V M (20 * s0 + b0) s0 b0 dc pr ac g) (hA : AKv V M (20 * s0 + b0) s0 dc) (hk : LTk rg kd fr s0 b0 su nu mo c2) (hkd : kd = 1 ∨ kd = 3)
    (v44 : V 44 t = nI kd) (v45 : V 45 t = nI fr) (v46 : V 46 t = nI s0) (v47 : V 47 t = nI b0) (v48 : V 48 t = nI su) (v49 : V 49 t = nI nu) (hq7 : PQ (V 51 t) (M 23 7) (M 23 8) (kd = 3 ∨ kd = 2 ∧ 0 < mo)) (hsu : su ≤ dc + 1) :
    INV rg pl (saa pl f n dc V (20 * s0 + b0) t) (mae M n (20 * s0 + b0) dc kd s0 b0 fr su nu) f (nx1 n) ∧ mae M n (20 * s0 + b0) dc kd s0 b0 fr su nu 26 0 = M 26 0 + nI 1 := by
  obtain ⟨q1, q2, q3, q4, q5, q6⟩ := id hD
  obtain ⟨k1, k2, k3, k4, k5, k6, k7, k8, k9, k10, k11, k12, k13⟩ := hk
  unfold saa mae
  rw [v44, v48, v49, q3.2.1]
  have hrf : rg b0 = false → dc = 0 := fun e => absurd (hr.symm.trans e) (by decide)
  by_cases h1 : su ≤ dc
  · rw [if_pos ((nI_ltI (by omega) (by omega)).mpr (by omega)), if_neg (fun z => absurd ((nI_ltI (by omega) (by omega)).mp z) (by omega))]
    exact ⟨SIM_an h hD v45 v46 v47 v48 v49 ⟨by decide, by decide, hs, k3, hb, k6, k7, Nat.zero_le _, q1.1, fun e => absurd rfl e, by omega, by omega, hrf⟩ (PQ_no (by decide)), msn_26⟩
  · have h2 : su = dc + 1 := by omega
    rw [if_neg (fun z => absurd ((nI_ltI (by omega) (by omega)).mp z) (by omega)), if_pos ((nI_ltI (by omega) (by omega)).mpr (by omega) : nI dc < nI su), if_pos (congrArg nI h2)]
    by_cases h3 : nu < pr
    · have h3' : nI nu < nI pr := (nI_ltI (by omega) (by omega)).mpr h3
      rw [if_pos h3']
      have hfin := SIM_an (t := t) (kd := 5) (mo := pr) (k2 := -1) (sp := -1) (dy := -1) h hD v45 v46 v47 v48 v49 ⟨by decide, by decide, hs, k3, hb, k6, k7, q1.2.1, q1.1, fun _ => hr, by omega, by omega, hrf⟩ (PQ_no (by omega))
      rcases hkd with rfl | rfl
      · rw [if_neg (by decide)]
        unfold mas0
        rw [q4.2.1, if_pos h3']
        exact ⟨hfin, msn_26⟩
      · rw [if_pos rfl]
        unfold mas1
        rw [q4.2.1, if_pos h3']
        exact ⟨hfin, msn_26⟩
    · have h3' : ¬ nI nu < nI pr := fun z => h3 ((nI_ltI (by omega) (by omega)).mp z)
      rw [if_neg h3']
      rcases hkd with rfl | rfl
      · rw [if_pos rfl, if_neg (by decide)]
        unfold mas0
        rw [q4.2.1, if_neg h3', q3.2.2.1, q4.2.2.1]
        have hDK : DKv (mu V 30 (20 * s0 + b0) (nI nu)) (mu M 4 (20 * s0 + b0) (nI nu)) (20 * s0 + b0) s0 b0 dc nu ac g := by
          refine ⟨⟨q1.1, k7, q1.2.2⟩, ?_, ⟨?_, mu_s, ?_, ?_⟩, ⟨?_, mu_s, ?_, ?_⟩, ?_, ?_⟩
          · rw [mu_k (by decide), mu_k (by decide)]; exact q2
          · rw [mu_k (by decide)]; exact q3.1
          · rw [mu_k (by decide)]; exact q3.2.2.1
          · rw [mu_k (by decide)]; exact q3.2.2.2
          · rw [mu_k (by decide)]; exact q4.1
          · rw [mu_k (by decide)]; exact q4.2.2.1
          · rw [mu_k (by decide)]; exact q4.2.2.2
          · intro j hj; rw [mu_k (by omega), mu_k (by decide), mu_k (by decide)]; exact q5 j hj
          · rw [mu_k (by decide), mu_k (by decide), mu_k (by decide)]; exact q6
        have hI : INV rg pl (mu V 30 (20 * s0 + b0) (nI nu)) (mu M 4 (20 * s0 + b0) (nI nu)) f n :=
          INV_dsk hs hb hr (fun k i h1 h2 => mu_o (by omega)) (fun k i h1 h2 h3 => mu_o (by omega)) ⟨dc, nu, ac, g, hDK, AKv_cg (fun k hk => mu_k (by omega)) (fun k hk => mu_k (by omega)) (mu_k (by decide)) hA⟩ h
        have hlk : LTk rg 2 s0 fr b0 su nu ac dc := ⟨by decide, by decide, hs, k3, hb, k6, k7, q1.2.2.1, q1.1, fun _ => hr, by omega, by omega, hrf⟩
        rcases q6 with ⟨h0, h32⟩ | ⟨h0, h32⟩
        · subst h0
          rw [if_neg (by decide), if_neg (by decide), h32]
          exact ⟨SIM_an hI hDK ((mu_k (by decide)).trans v45) ((mu_k (by decide)).trans v46) ((mu_k (by decide)).trans v47) ((mu_k (by decide)).trans v48) ((mu_k (by decide)).trans v49) hlk (PQ_no (by decide)), msn_26.trans (by rw [mu_k (by decide)])⟩
        · have h5 : (0 : Int32) < nI ac := by
            have := (nI_ltI (a := 0) (b := ac) (by decide) (by omega)).mpr h0
            rw [nI_0] at this
            exact this
          rw [if_pos h5, if_pos h5]
          exact ⟨SIM_an hI hDK ((mu_k (by decide)).trans v45) ((mu_k (by decide)).trans v46) ((mu_k (by decide)).trans v47) ((mu_k (by decide)).trans v48) ((mu_k (by decide)).trans v49) hlk (Or.inl h32), msn_26.trans (by rw [mu_k (by decide)])⟩
      · rw [if_neg (by decide), if_pos rfl]
        unfold mas1
        rw [q4.2.1, if_neg h3']
        have hpr : PR2 (V 51 t) (M 23 7) (M 23 8) := by
          rcases hq7 with z | z
          · exact z
          · exact absurd (Or.inl rfl) z.1
        have hDK : DKv (mu (mu (mu V 30 (20 * s0 + b0) (nI nu)) 31 (20 * s0 + b0) (nI nu)) 32 (20 * s0 + b0) (V 51 t)) (mu (mu (mu (mu M 4 (20 * s0 + b0) (nI nu)) 5 (20 * s0 + b0) (nI nu)) 6 (20 * s0 + b0) (M 23 7)) 7 (20 * s0 + b0) (M 23 8)) (20 * s0 + b0) s0 b0 dc nu nu g := by
          refine ⟨⟨q1.1, k7, k7, q1.2.2.2⟩, ?_, ⟨?_, ?_, ?_, ?_⟩, ⟨?_, ?_, ?_, ?_⟩, ?_, Or.inr ⟨k12 rfl, ?_⟩⟩
          · rw [mu_k (by decide), mu_k (by decide), mu_k (by decide), mu_k (by decide), mu_k (by decide), mu_k (by decide)]; exact q2
          · rw [mu_k (by decide), mu_k (by decide), mu_k (by decide)]; exact q3.1
          · rw [mu_k (by decide), mu_k (by decide), mu_s]
          · rw [mu_k (by decide), mu_s]
          · rw [mu_k (by decide), mu_k (by decide), mu_k (by decide)]; exact q3.2.2.2
          · rw [mu_k (by decide), mu_k (by decide), mu_k (by decide), mu_k (by decide)]; exact q4.1
          · rw [mu_k (by decide), mu_k (by decide), mu_k (by decide), mu_s]
          · rw [mu_k (by decide), mu_k (by decide), mu_s]
          · rw [mu_k (by decide), mu_k (by decide), mu_k (by decide), mu_k (by decide)]; exact q4.2.2.2
          · intro j hj
            rw [mu_k (by omega), mu_k (by omega), mu_k (by omega), mu_k (by decide), mu_k (by decide), mu_k (by decide), mu_k (by decide), mu_k (by decide), mu_k (by decide), mu_k (by decide), mu_k (by decide)]
            exact q5 j hj
          · rw [mu_s, mu_k (by decide), mu_s, mu_s]; exact hpr
        have hI : INV rg pl (mu (mu (mu V 30 (20 * s0 + b0) (nI nu)) 31 (20 * s0 + b0) (nI nu)) 32 (20 * s0 + b0) (V 51 t)) (mu (mu (mu (mu M 4 (20 * s0 + b0) (nI nu)) 5 (20 * s0 + b0) (nI nu)) 6 (20 * s0 + b0) (M 23 7)) 7 (20 * s0 + b0) (M 23 8)) f n :=
          INV_dsk hs hb hr (fun k i h1 h2 => (mu_o (by omega)).trans ((mu_o (by omega)).trans (mu_o (by omega)))) (fun k i h1 h2 h3 => (mu_o (by omega)).trans ((mu_o (by omega)).trans ((mu_o (by omega)).trans (mu_o (by omega)))))
            ⟨dc, nu, nu, g, hDK, AKv_cg (fun k hk => (mu_k (by omega)).trans ((mu_k (by omega)).trans (mu_k (by omega)))) (fun k hk => (mu_k (by omega)).trans ((mu_k (by omega)).trans ((mu_k (by omega)).trans (mu_k (by omega))))) ((mu_k (by decide)).trans ((mu_k (by decide)).trans ((mu_k (by decide)).trans (mu_k (by decide))))) hA⟩ h
        have ov : ∀ k, 44 ≤ k → mu (mu (mu V 30 (20 * s0 + b0) (nI nu)) 31 (20 * s0 + b0) (nI nu)) 32 (20 * s0 + b0) (V 51 t) k t = V k t := fun k hk => (mu_k (by omega)).trans ((mu_k (by omega)).trans (mu_k (by omega)))
        refine ⟨SIM_an (mo := 0) hI hDK ((ov _ (by decide)).trans v45) ((ov _ (by decide)).trans v46) ((ov _ (by decide)).trans v47) ((ov _ (by decide)).trans v48) ((ov _ (by decide)).trans v49) ⟨by decide, by decide, hs, k3, hb, k6, k7, Nat.zero_le _, q1.1, fun _ => hr, by omega, by omega, hrf⟩ (PQ_no (by decide)), msn_26.trans ?_⟩
        rw [mu_k (by decide), mu_k (by decide), mu_k (by decide), mu_k (by decide)]
end SKD
