/-! ROWS over the flat state for arrays of references, the letter that was taken, and a throw. -/
def va_E_row (ar : Nat → ClassId) (ad : Nat → Nat → Nat) (rg : Nat → Bool) (pl : Nat → Nat) (V : fV) : va_E := .inr (3, [.ref (ad 3 0), .ref (ad 4 101), .ref (ad 4 (pl 0)), .int (V 54 0), .int (V 55 0), .int (V 56 0), .int (V 57 0), .int (V 58 0)])
def va_E_pls (ar : Nat → ClassId) (ad : Nat → Nat → Nat) (rg : Nat → Bool) (pl : Nat → Nat) (V : fV) : va_E := .inl (ar 5, 100, .inr (.inr (.inr (.inr (fun q => some (ad 4 (pl (q + 1))))))))
section KRF
variable {p : Program} {l : Launch} {e : Env} {R : Room} {s : State} {m : MethodId} {args : Array Value} {below : List Frame} {meth : Method} {c : Code} {H : Heap} {locs : List Loc} {cells slots : Nat} {Q : State → Prop}
variable {cc : ByteArray} {nL pc : Nat} {ls : Array Slot} {rest : List Value} {D : va_G} {ar : Nat → ClassId} {base : Nat} {σ : mp_M} {H0 : Heap} {own : String} {ad : Nat → Nat → Nat} {rg : Nat → Bool} {pl : Nat → Nat} {V M : fV}
theorem kpl_ld (x : XX D ar p s m args c cc nL own) (hH : HH D base σ H) (hL : Lay ar ad rg pl V M σ) {j : Nat} (hj : j < 100) (hdg : decode cc pc = .ok (.aaload, 1))
    (kk : W p l e R s m args below meth c H locs cells slots Q (F0 m (pc + 1) ls (.ref (ad 4 (pl (j + 1))) :: rest))) : W p l e R s m args below meth c H locs cells slots Q (F0 m pc ls (.int (nI j) :: .ref (ad 3 0) :: rest)) :=
  mn_aald x hH 5 rfl (la3 hL) (vp_in_nI hj (by decide)) (by rw [nI_clamp (by omega)]) hdg kk
theorem kds_ld (x : XX D ar p s m args c cc nL own) (hH : HH D base σ H) (hL : Lay ar ad rg pl V M σ) {i j : Nat} (h : i < 20 ∧ rg i = true) (hj : j < 25) (hdg : decode cc pc = .ok (.aaload, 1))
    (kk : W p l e R s m args below meth c H locs cells slots Q (F0 m (pc + 1) ls (.ref (ad 9 (20 * j + i)) :: rest))) : W p l e R s m args below meth c H locs cells slots Q (F0 m pc ls (.int (nI j) :: .ref (ad 8 i) :: rest)) :=
  mn_aald x hH 4 rfl (la8 hL h) (vp_in_nI hj (by decide)) (by rw [nI_clamp (by omega)]) hdg kk
theorem kps_ld (x : XX D ar p s m args c cc nL own) (hH : HH D base σ H) (hL : Lay ar ad rg pl V M σ) {j : Nat} (hj : j < 20) (hg : rg j = true) (hdg : decode cc pc = .ok (.aaload, 1))
    (kk : W p l e R s m args below meth c H locs cells slots Q (F0 m (pc + 1) ls (.ref (ad 7 j) :: rest))) : W p l e R s m args below meth c H locs cells slots Q (F0 m pc ls (.int (nI j) :: .ref (ad 1 0) :: rest)) :=
  mn_aald x hH 3 rfl (la1 hL) (vp_in_nI hj (by decide)) (by rw [nI_clamp (by omega), if_pos hg]) hdg kk
theorem kps_ldN (x : XX D ar p s m args c cc nL own) (hH : HH D base σ H) (hL : Lay ar ad rg pl V M σ) {j : Nat} (hj : j < 20) (hg : rg j = false) (hdg : decode cc pc = .ok (.aaload, 1))
    (kk : W p l e R s m args below meth c H locs cells slots Q (F0 m (pc + 1) ls (.null :: rest))) : W p l e R s m args below meth c H locs cells slots Q (F0 m pc ls (.int (nI j) :: .ref (ad 1 0) :: rest)) :=
  mn_aaldN x hH 3 rfl (la1 hL) (vp_in_nI hj (by decide)) (by rw [nI_clamp (by omega), if_neg (by rw [hg]; decide)]) hdg kk
theorem Lv_sing {kd i : Nat} (h : Lv rg kd i) (hk : kd ≤ 3) : i = 0 := by
  rcases h with q | q | q | q | q | q | q
  · exact q.2
  all_goals omega
theorem fc_pl {pl' : Nat → Nat} {kd i : Nat} (h : kd ≠ 2) (h2 : kd ≠ 3) : fc ar ad rg pl' V M kd i = fc ar ad rg pl V M kd i := by
  unfold fc
  split <;> first | rfl | exact absurd rfl h | exact absurd rfl h2
theorem lay_pl {σ1 : mp_M} {pl' : Nat → Nat} (hL : Lay ar ad rg pl V M σ) {kd : Nat} (hk : kd = 2 ∨ kd = 3) (h1 : σ1 (ad kd 0) = some (fc ar ad rg pl' V M kd 0)) (o : ∀ q, q ≠ ad kd 0 → σ1 q = σ q) (h2 : kd = 2 → ∀ j, pl' (j + 1) = pl (j + 1)) (h3 : kd = 3 → pl' 0 = pl 0) : Lay ar ad rg pl' V M σ1 := by
  have hl : Lv rg kd 0 := LvG (by omega)
  refine ⟨fun kd' i' hl' => ?_, hL.2⟩
  by_cases h : kd' = kd ∧ i' = 0
  · obtain ⟨rfl, rfl⟩ := h
    exact h1
  · rw [o _ (fun q => h (hL.2 _ _ _ _ hl' hl q)), hL.1 _ _ hl']
    by_cases h4 : kd' = 2
    · subst h4
      rcases hk with rfl | rfl
      · exact absurd ⟨rfl, Lv_sing hl' (by decide)⟩ h
      · show some (va_E_row ar ad rg pl V) = some (va_E_row ar ad rg pl' V)
        unfold va_E_row
        rw [h3 rfl]
    · by_cases h5 : kd' = 3
      · subst h5
        rcases hk with rfl | rfl
        · show some (va_E_pls ar ad rg pl V) = some (va_E_pls ar ad rg pl' V)
          unfold va_E_pls
          have : (fun q => some (ad 4 (pl (q + 1)))) = fun q => some (ad 4 (pl' (q + 1))) := funext fun q => by rw [h2 rfl q]
          rw [this]
        · exact absurd ⟨rfl, Lv_sing hl' (by decide)⟩ h
      · rw [fc_pl h4 h5]
theorem kpl_st (x : XX D ar p s m args c cc nL own) (hH : HH D base σ H) (hS0 : va_S (mp_A base) H0 H locs) (hL : Lay ar ad rg pl V M σ) {i j : Nat} (ht : i < 102) (hj : j < 100) (hdg : decode cc pc = .ok (.aastore, 1))
    (kk : ∀ (σ1 : mp_M), Lay ar ad rg (va_up pl (j + 1) i) V M σ1 → ∀ (H1 : Heap) (locs1 : List Loc), HH D base σ1 H1 → va_S (mp_A base) H0 H1 locs1 → W p l e R s m args below meth c H1 locs1 cells slots Q (F0 m (pc + 1) ls rest)) : W p l e R s m args below meth c H locs cells slots Q (F0 m pc ls (.ref (ad 4 i) :: .int (nI j) :: .ref (ad 3 0) :: rest)) :=
  mn_aast x hH hS0 5 rfl rfl (la3 hL) (la4 hL ht) (vp_in_nI hj (by decide)) hdg (fun σ1 f o H1 locs1 h1 h2 => kk σ1 (lay_pl hL (Or.inr rfl) (f.trans (by
    rw [nI_clamp (by omega)]
    show _ = some (va_E_pls ar ad rg (va_up pl (j + 1) i) V)
    unfold va_E_pls
    have : va_up (fun q => some (ad 4 (pl (q + 1)))) j (some (ad 4 i)) = fun q => some (ad 4 (va_up pl (j + 1) i (q + 1))) := by
      funext q
      by_cases h : q = j
      · subst h; simp [va_up]
      · simp [va_up, h]
    rw [this])) o (fun h => absurd h (by decide)) (fun _ => by simp [va_up])) H1 locs1 h1 h2)
theorem kt_put (x : XX D ar p s m args c cc nL own) (hH : HH D base σ H) (hS0 : va_S (mp_A base) H0 H locs) (hL : Lay ar ad rg pl V M σ) {i : Nat} (ht : i < 102) {index : Nat} {ty : FieldType} (fl : mp_FP cl_L wt_L own index 3 2 ty false) (hn : narrow ty (.ref (ad 4 i)) = .ref (ad 4 i)) (hf : fits ty (.ref (ad 4 i)) = true) (hdg : decode cc pc = .ok (.putfield index, 3))
    (kk : ∀ (σ1 : mp_M), Lay ar ad rg (va_up pl 0 i) V M σ1 → ∀ (H1 : Heap) (locs1 : List Loc), HH D base σ1 H1 → va_S (mp_A base) H0 H1 locs1 → W p l e R s m args below meth c H1 locs1 cells slots Q (F0 m (pc + 3) ls rest)) : W p l e R s m args below meth c H locs cells slots Q (F0 m pc ls (.ref (ad 4 i) :: .ref (ad 2 0) :: rest)) :=
  mn_put x hH hS0 (la2 hL) fl hn hf (by simp) rfl hdg (fun σ1 f o H1 locs1 h1 h2 => kk σ1 (lay_pl hL (Or.inl rfl) (f.trans (by
    show _ = some (va_E_row ar ad rg (va_up pl 0 i) V)
    unfold va_E_row
    simp [va_up])) o (fun _ j => by simp [va_up]) (fun h => absurd h (by decide))) H1 locs1 h1 h2)
/-- an exception is made and thrown, in a method of SupplyGrid without handlers -/
theorem kx_throw (x : XX D ar p s m args c cc nL own) {mc ms : Nat} {PO : Outcome → mp_M → State → Prop} (hG : GG D ar base s) (hB : base ≤ s.heap.size) (hlen : ls.size = nL) (hfl : l.flags = flags0) (hlocks : meth.locks = false) (hh : c.exceptionTable.toList.map (fun h => (h.startPc, h.endPc, h.handlerPc, h.catchType)) = [])
    {cls tx : String} {ia ib ic : Nat} (hcls : Bundle.fit cls = true) (hcl : Cond.classLink own ia cls ∈ wt_L) (hinst : Cond.instantiable cls 6 ∈ wt_L) (hini : Cond.initialized cls ∈ wt_L) (hat : ∀ w ∈ Bundle.ownAtoms own ic cls ["java/lang/RuntimeException", "java/lang/Exception"], mp_At wt_L w) (hown2 : own = "SupplyGrid") (hstr : (ib, tx) ∈ mp_strs)
    (hd0 : decode cc pc = .ok (.new ia, 3)) (hd3 : decode cc (pc + 3) = .ok (.dup, 1)) (hd4 : decode cc (pc + 4) = .ok (.ldc ib, 2)) (hd6 : decode cc (pc + 6) = .ok (.invokespecial ic, 3)) (hd9 : decode cc (pc + 9) = .ok (.athrow, 1))
    (hfr : 6 ≤ R.frames) (hlo : (rest.map fun v => v.category).sum + 82 ≤ R.locals) (hce : cells + 1 ≤ R.cells) (hsl : slots + 6 ≤ R.slots) (hce2 : cells + 1 ≤ mc) (hsl2 : slots + 6 ≤ ms) (hH : HH D base σ H) (hS : va_S (mp_A base) s.heap H locs)
    (hq : ∀ (t : State) (a : Addr), mp_T cls a t → PO (.threw a) σ t) :
    W p l e R s m args below meth c H locs cells slots (mp_Q below s mc ms base (mp_P D cl_L base s PO)) (F0 m pc ls rest) :=
  mp_throwS x (wt_mv base) wt_us hG hB hlen hfl hlocks hh hcls hcl hinst hini hat hown2 hstr hd0 hd3 hd4 hd6 hd9 hfr hlo hce hsl hce2 hsl2 hS
    (fun t hT hz ho hW => ⟨⟨σ, hq t _ hT, hH.grow ho⟩, Nat.le_trans hS.1 hz, fun q h1 h2 => (ho q (Nat.lt_of_lt_of_le h1 hS.1)).trans (hS.2.1 q h1 h2)⟩)
end KRF
