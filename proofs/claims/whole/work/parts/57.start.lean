/-! THE CLAIM OUT OF ONE WALK OF THE LAW'S BODY. Your part is whole_start (and what it stands on); all else here is the same for every law, but numbers. -/
def R_law : String := "SupplyGridLaw"
def lw_P (b : Addr) (xs : List Int32) (args : Array Value) (s : State) : Prop := args = #[.ref b] ∧ s.IntsAt b xs ∧ xs.length ≤ 2560 ∧ (Jvm.Cond.and given_1 narrow_1).before args s = true
def lw_Q (_ : Array Value) (s : State) (o : Outcome) (t : State) : Prop := o = .returned (some (.int 1)) ∧ Framed s o t [] 601024 7293034
def lw_Z (below : List Frame) (a : Array Value) (s : State) : State → Prop := fun t => ∃ o, t.status = .running ∧ Ended t below o ∧ lw_Q a s o t
/-- the law's own end, with 1 on the stack, nothing written that was there before, its room as the claim has it -/
theorem lw_ret {p : Program} {l : Launch} {e : Env} {s : State} {m : MethodId} {below : List Frame} {meth : Method} {c : Code} {b : Nat} (hx : p.tables.exec = Jvm.exec) (hb : c.code = code) (hr : meth.sig.returnType = ret) (hlocks : meth.locks = false) {pc : Nat} {H : Heap} {ls : Array Slot} (hdg : decode code pc = .ok (.ireturn, 1)) : W p l e room_1 s m #[Value.ref b] below meth c H [] 601024 7293034 (lw_Z below #[Value.ref b] s) (F0 m pc ls [.int 1]) := by
  intro T hT X
  obtain ⟨fs, hret, hrun, hended, hW, hframe⟩ := X.leave (v := some (.int 1)) (hlocks := hlocks) (fun h => by rw [hr] at h; cases h)
  have hmeth' : T.vm.method? m = some meth := X.method'
  refine ⟨T.setFrames fs, ?_, .returned (some (.int 1)), hrun, hended, rfl, ⟨_, rfl⟩, hW, hframe⟩
  jvm_step X.here [X.here.top, hx, hb, hdg, hmeth', hr, ret, narrow_b1]
  (try refine ⟨rfl, ?_⟩); (try refine ⟨rfl, ?_⟩)
  first | (intro acts; rw [hret _ acts rfl rfl rfl]) | rw [hret _ _ rfl rfl rfl]
  exact Steps.refl _
/-- what holds at the law's entry: the machine, the code, the tables' words (any of lw_tbl by 'hts w (by decide +kernel)'), the script of L ints xs at the cell b, what the Statement gives of the start (any of its parts by flat_of_before) -/
def lw_At (p : Program) (s : State) (m : MethodId) (meth : Method) (c : Code) (b L : Nat) (xs : Nat → Int32) : Prop :=
  p.tables.exec = Jvm.exec ∧ c.code = code ∧ meth.sig.returnType = ret ∧ c.maxLocals = 7 ∧ s.vm.findClass R_law = some m.cls ∧ (∀ w ∈ lw_tbl, w.before #[Value.ref b] s = true) ∧ va_X b L xs s s.heap ∧ b < s.heap.size ∧ meth.locks = false ∧ (Jvm.Cond.and given_1 narrow_1).before #[Value.ref b] s = true

theorem and15 (v : Int32) : ∃ k, k < 16 ∧ v &&& nI 15 = nI k := by
  refine ⟨(v.toBitVec &&& 15#32).toNat, ?_, ?_⟩
  · rw [BitVec.toNat_and]
    exact Nat.and_lt_two_pow _ (by decide : (15#32).toNat < 2 ^ 4)
  · apply Int32.toBitVec_inj.mp
    rw [Int32.toBitVec_and]
    show v.toBitVec &&& (15#32) = BitVec.ofNat 32 _
    rw [BitVec.ofNat_toNat, BitVec.setWidth_eq]
theorem wt_nw {w : Cond} (hw : w ∈ wt_L) {A : Array Value} {U : State} (h : w.before A U = true) : va_Nw w U := by
  have hk := (List.mem_filter.mp hw).2
  cases w with
  | arrayClass ty => exact h
  | arrayOver ty => exact h
  | fieldLinkNest a i b n d hh => exact va_tabs rfl rfl h
  | methodLinkNest a i y hh => exact va_tabs rfl rfl h
  | declares y => exact va_tabs rfl rfl h
  | castable a b => exact va_tabs rfl rfl h
  | _ => first | exact va_tabs (by simp only [wt_ok, Bool.and_eq_true] at hk; exact hk.1) rfl h | (cases hk)
theorem arI {A : Array Value} {s : State} (h : (Cond.arrayClass .int).before A s = true) : ∃ cA, ArrOfT s cA .int ∧ va_RA s cA .int := by
  obtain ⟨c, k, comp, h1, h2, h3⟩ := Cond.arrayClass_spec h
  exact ⟨c, fun n z => ⟨(fun k h => by cases h), k, h2, comp, h3⟩, h1⟩
theorem arL {A : Array Value} {s : State} (h : (Cond.arrayClass .long).before A s = true) : ∃ cA, ArrOfT s cA .long ∧ va_RA s cA .long := by
  obtain ⟨c, k, comp, h1, h2, h3⟩ := Cond.arrayClass_spec h
  exact ⟨c, fun n z => ⟨(fun k h => by cases h), k, h2, comp, h3⟩, h1⟩
theorem arZ {A : Array Value} {s : State} (h : (Cond.arrayClass .boolean).before A s = true) : ∃ cA, ArrOfT s cA .boolean ∧ va_RA s cA .boolean := by
  obtain ⟨c, k, comp, h1, h2, h3⟩ := Cond.arrayClass_spec h
  exact ⟨c, fun n z => ⟨(fun k h => by cases h), k, h2, comp, h3⟩, h1⟩
theorem arO {A : Array Value} {s : State} {C : String} (h : (Cond.arrayOver (.object C)).before A s = true) : ∃ cA, ArrOfT s cA (.object C) ∧ va_RA s cA (.object C) := by
  obtain ⟨comp, c, k, h1, h2, h3, h4, h5⟩ := Cond.arrayOver_spec h
  exact ⟨c, fun n z => ⟨(fun k h => by cases h), k, h3, comp, h4⟩, k, comp, h3, h4, h1, h5⟩
set_option maxRecDepth 100000 in
set_option maxHeartbeats 4000000 in
theorem law_loop {p : Program} {l : Launch} {e : Env} {s : State} {m : MethodId} {below : List Frame} {meth : Method} {c : Code} {D : va_G} {ar : Nat → ClassId} {b L : Nat} {xs : Nat → Int32} (xx : XX D ar p s m #[Value.ref b] c code 7 "SupplyGridLaw") (hG : GG D ar s.heap.size s) (hX : va_X b L xs s s.heap) (hbl : b < s.heap.size) (hfl : l.flags = flags0) (hLN : L ≤ 2560) (hr : meth.sig.returnType = ret) (hlocks : meth.locks = false) :
    ∀ (nn i : Nat) (ad : Nat → Nat → Nat) (rg : Nat → Bool) (pl : Nat → Nat) (V M : fV) (f n : Nat) (σ : mp_M) (H : Heap) (locs : List Loc) (ls : Array Slot) (cells slots : Nat), i ≤ L → L - i < nn → Lay ar ad rg pl V M σ → INV rg pl V M f n → cells ≤ 500 + 110 * i → slots ≤ 40000 + 800 * i → lv_has ls 7 [(0, .ref b), (1, .ref (ad 0 0)), (2, .ref (ad 13 0)), (3, .ref (ad 15 0)), (4, .int (nI i))] → HH D s.heap.size σ H → va_S (mp_A s.heap.size) s.heap H locs → W p l e room_1 s m #[Value.ref b] below meth c H locs cells slots (lw_Z below #[Value.ref b] s) (F0 m 23 ls []) := by
  have hbA : ¬ mp_A s.heap.size b := Nat.not_le.mpr hbl
  intro nn
  induction nn with
  | zero => intro i ad rg pl V M f n σ H locs ls cells slots _ hn; exact absurd hn (Nat.not_lt_zero _)
  | succ nn ih =>
    intro i ad rg pl V M f n σ H locs ls cells slots hiL hn hL hI hc hs hl hH hS
    refine lv_iload xx.1 xx.2.1 dd_la_law_23 (lv_at hl 4 rfl) ?_
    refine lv_aload_n xx.1 xx.2.1 dd_la_law_25 rfl (lv_at hl 0 rfl) ?_
    refine va_slen xx.1 xx.2.1 hX hbl hbA hS dd_la_law_26 ?_
    refine lv_iconst (v := nI 5) xx.1 xx.2.1 dd_la_law_27 (by decide +kernel) ?_
    refine lv_isub xx.1 xx.2.1 dd_la_law_28 ?_
    refine lv_icmp_gt (tgt := 1145) xx.1 xx.2.1 dd_la_law_29 (by decide) (fun c1 => ?_) (fun c1 => ?_)
    · refine lv_iconst (v := 1) xx.1 xx.2.1 dd_la_law_1145 (by decide +kernel) ?_
      refine va_forget (fun q hq => hS.2.2 q hq) ?_
      refine W.widen (k := 601024) (n := 7293034) (by omega) (by omega) ?_
      exact lw_ret xx.1 xx.2.1 hr hlocks dd_la_law_1146
    · have hi5 : i + 5 ≤ L := by
        have c2 : ¬ (nI L - nI 5 < nI i) := c1
        rw [Int32.lt_iff_toInt_lt, pk_sub_toInt (by omega) (by omega), nI_toInt (by omega)] at c2
        omega
      refine lv_aload_n xx.1 xx.2.1 dd_la_law_32 rfl (lv_at hl 0 rfl) ?_
      refine lv_iload xx.1 xx.2.1 dd_la_law_33 (lv_at hl 4 rfl) ?_
      refine va_sld xx.1 xx.2.1 hX hbl hbA hS (vp_in_nI (show i < L by omega) (by omega)) dd_la_law_35 ?_
      refine lv_bipush (v := nI 15) xx.1 xx.2.1 dd_la_law_36 (by decide +kernel) ?_
      refine lv_iand xx.1 xx.2.1 dd_la_law_38 ?_
      obtain ⟨v, hv, hve⟩ := and15 (xs (nI i).toNatClampNeg)
      refine mn_top (w := nI v) hve ?_
      have hce : cells + 110 ≤ room_1.cells := by show cells + 110 ≤ 601024; omega
      have hsl : slots + 800 ≤ room_1.slots := by show slots + 800 ≤ 7293034; omega
      have go : GOON p l e s m below meth c D ar b i cells slots (lw_Z below #[Value.ref b] s) := fun ad rg pl V M f n σ H locs ls cells' slots' hL hI hc' hs' hl hH hS => by
        refine lv_iinc (v := nI (i + 5)) (lv' := [(4, .int (nI (i + 5))), (0, .ref b), (1, .ref (ad 0 0)), (2, .ref (ad 13 0)), (3, .ref (ad 15 0))]) xx.1 xx.2.1 dd_la_law_1139 (lv_sub hl [4, 0, 1, 2, 3] rfl) (k := 0) rfl (nI_add i 5) (by decide) rfl (fun ls hl => ?_)
        refine lv_goto (tgt := 23) xx.1 xx.2.1 dd_la_law_1142 (by decide) ?_
        exact ih (i + 5) ad rg pl V M f n σ H locs ls cells' slots' (by omega) (by omega) hL hI (by omega) (by omega) (lv_sub hl [1, 2, 3, 4, 0] rfl) hH hS
      have hvs : v = 0 ∨ v = 1 ∨ v = 2 ∨ v = 3 ∨ v = 4 ∨ v = 5 ∨ v = 6 ∨ v = 7 ∨ v = 8 ∨ v = 9 ∨ v = 10 ∨ v = 11 ∨ v = 12 ∨ v = 13 ∨ v = 14 ∨ v = 15 := by omega
      rcases hvs with rfl | rfl | rfl | rfl | rfl | rfl | rfl | rfl | rfl | rfl | rfl | rfl | rfl | rfl | rfl | rfl
      · refine lv_tableIn (tgt := 116) xx.1 xx.2.1 dd_la_law_39 (by decide +kernel) (by decide +kernel) rfl (by decide) ?_
        exact lt_register xx hG hX hbl hfl hL hI hi5 (by omega) hce hsl hl hH hS go
      · refine lv_tableIn (tgt := 176) xx.1 xx.2.1 dd_la_law_39 (by decide +kernel) (by decide +kernel) rfl (by decide) ?_
        exact lt_ask xx hG hX hbl hfl hL hI hi5 (by omega) hce hsl hl hH hS go
      · refine lv_tableIn (tgt := 256) xx.1 xx.2.1 dd_la_law_39 (by decide +kernel) (by decide +kernel) rfl (by decide) ?_
        exact lt_retry xx hG hX hbl hfl hL hI hi5 (by omega) hce hsl hl hH hS go
      · refine lv_tableIn (tgt := 324) xx.1 xx.2.1 dd_la_law_39 (by decide +kernel) (by decide +kernel) rfl (by decide) ?_
        exact lt_deliver xx hG hX hbl hfl hL hI hi5 (by omega) hce hsl hl hH hS go
      · refine lv_tableIn (tgt := 380) xx.1 xx.2.1 dd_la_law_39 (by decide +kernel) (by decide +kernel) rfl (by decide) ?_
        exact lt_drop xx hG hX hbl hfl hL hI hi5 (by omega) hce hsl hl hH hS go
      · refine lv_tableIn (tgt := 436) xx.1 xx.2.1 dd_la_law_39 (by decide +kernel) (by decide +kernel) rfl (by decide) ?_
        exact lt_copy xx hG hX hbl hfl hL hI hi5 (by omega) hce hsl hl hH hS go
      · refine lv_tableIn (tgt := 499) xx.1 xx.2.1 dd_la_law_39 (by decide +kernel) (by decide +kernel) rfl (by decide) ?_
        exact lt_deliverAll xx hG hX hbl hfl hL hI hi5 (by omega) hce hsl hl hH hS go
      · refine lv_tableIn (tgt := 555) xx.1 xx.2.1 dd_la_law_39 (by decide +kernel) (by decide +kernel) rfl (by decide) ?_
        exact lt_up xx hG hX hbl hfl hL hI hi5 (by omega) hce hsl hl hH hS go
      · refine lv_tableIn (tgt := 646) xx.1 xx.2.1 dd_la_law_39 (by decide +kernel) (by decide +kernel) rfl (by decide) ?_
        exact lt_teach xx hG hX hbl hfl hL hI hi5 (by omega) hce hsl hl hH hS go
      · refine lv_tableIn (tgt := 733) xx.1 xx.2.1 dd_la_law_39 (by decide +kernel) (by decide +kernel) rfl (by decide) ?_
        exact lt_pool xx hG hX hbl hfl hL hI hi5 (by omega) hce hsl hl hH hS go
      · refine lv_tableIn (tgt := 746) xx.1 xx.2.1 dd_la_law_39 (by decide +kernel) (by decide +kernel) rfl (by decide) ?_
        exact lt_letter xx hG hX hbl hfl hL hI hi5 (by omega) hce hsl hl hH hS go
      · refine lv_tableIn (tgt := 814) xx.1 xx.2.1 dd_la_law_39 (by decide +kernel) (by decide +kernel) rfl (by decide) ?_
        exact lt_state xx hG hX hbl hfl hL hI hi5 (by omega) hce hsl hl hH hS go
      · refine lv_tableIn (tgt := 882) xx.1 xx.2.1 dd_la_law_39 (by decide +kernel) (by decide +kernel) rfl (by decide) ?_
        exact lt_granted xx hG hX hbl hfl hL hI hi5 (by omega) hce hsl hl hH hS go
      · refine lv_tableIn (tgt := 990) xx.1 xx.2.1 dd_la_law_39 (by decide +kernel) (by decide +kernel) rfl (by decide) ?_
        exact lt_kept xx hG hX hbl hfl hL hI hi5 (by omega) hce hsl hl hH hS go
      · refine lv_tableIn (tgt := 1070) xx.1 xx.2.1 dd_la_law_39 (by decide +kernel) (by decide +kernel) rfl (by decide) ?_
        exact lt_live xx hG hX hbl hfl hL hI hi5 (by omega) hce hsl hl hH hS go
      · refine lv_tableIn (tgt := 1083) xx.1 xx.2.1 dd_la_law_39 (by decide +kernel) (by decide +kernel) rfl (by decide) ?_
        exact lt_total xx hG hX hbl hfl hL hI hi5 (by omega) hce hsl hl hH hS go
theorem LAST {kd i : Nat} (h : Lv (fun _ => false) kd i) : ((LM LG 24 kd i ∨ (kd = 13 ∧ i = 0)) ∨ (kd = 15 ∧ i = 0)) := by
  rcases h with h | h | ⟨-, -, h⟩ | ⟨h1, h2, h | ⟨-, h⟩⟩ | h | h | h
  · exact Or.inl (Or.inl (Or.inl (Or.inl h)))
  · exact Or.inl (Or.inl (Or.inl (Or.inr (Or.inl h))))
  · cases h
  · exact Or.inl (Or.inl (Or.inl (Or.inr (Or.inr ⟨h1, h2, h⟩))))
  · cases h
  · exact Or.inl (Or.inr h)
  · exact Or.inl (Or.inl (Or.inr h))
  · exact Or.inr h
theorem START_STR {s : State} {b k : Nat} {tx : String} (h1 : (Cond.stringRef "SupplyGrid" k tx).before #[Value.ref b] s = true) (h2 : (Cond.exactly (.string "SupplyGrid" k) "java/lang/String").before #[Value.ref b] s = true) : ∃ a, vk_R "SupplyGrid" k tx a s := by
  obtain ⟨a, c, cell, k, h, -⟩ := Cond.exactly_spec h2
  exact ⟨a, h1, h⟩
theorem START_ZS {s : State} {b : Nat} (hts : ∀ w ∈ lw_tbl, w.before #[Value.ref b] s = true) (hfs : ∀ w ∈ flatC (Jvm.Cond.and given_1 narrow_1), w.before #[Value.ref b] s = true) (hn1 : ∀ a : Nat, a < s.heap.size → ¬ mp_A s.heap.size a) : mp_ZS s.heap.size s := by
  refine ⟨va_Zqof (hts (.laysStatic mp_thr "UNASSIGNED_STACK" mp_ste) (by decide +kernel)) (hts (.initialized mp_thr) (by decide +kernel)) (hfs (.isRef (.static mp_thr "UNASSIGNED_STACK" mp_ste)) (by decide +kernel)) hn1, va_Zqof (hts (.laysStatic mp_thr "SUPPRESSED_SENTINEL" mp_lst) (by decide +kernel)) (hts (.initialized mp_thr) (by decide +kernel)) (hfs (.isRef (.static mp_thr "SUPPRESSED_SENTINEL" mp_lst)) (by decide +kernel)) hn1, ?_, (hfs (.not (.castable mp_ise mp_iae)) (by decide +kernel)), (hts (.laysStatic mp_thr "UNASSIGNED_STACK" mp_ste) (by decide +kernel)), (hts (.laysStatic mp_thr "SUPPRESSED_SENTINEL" mp_lst) (by decide +kernel))⟩
  intro q hq
  simp only [mp_strs, List.mem_cons, List.not_mem_nil, or_false] at hq
  rcases hq with rfl | rfl | rfl | rfl | rfl | rfl | rfl | rfl | rfl
  · exact START_STR (hts (.stringRef "SupplyGrid" 46 "the prescription is registered already") (by decide +kernel)) (hfs (.exactly (.string "SupplyGrid" 46) "java/lang/String") (by decide +kernel))
  · exact START_STR (hts (.stringRef "SupplyGrid" 57 "the prescription is not registered") (by decide +kernel)) (hfs (.exactly (.string "SupplyGrid" 57) "java/lang/String") (by decide +kernel))
  · exact START_STR (hts (.stringRef "SupplyGrid" 70 "all supplies are decided, or the day is too near the last one") (by decide +kernel)) (hfs (.exactly (.string "SupplyGrid" 70) "java/lang/String") (by decide +kernel))
  · exact START_STR (hts (.stringRef "SupplyGrid" 101 "the shop does not ask") (by decide +kernel)) (hfs (.exactly (.string "SupplyGrid" 101) "java/lang/String") (by decide +kernel))
  · exact START_STR (hts (.stringRef "SupplyGrid" 189 "a number is not as it may be") (by decide +kernel)) (hfs (.exactly (.string "SupplyGrid" 189) "java/lang/String") (by decide +kernel))
  · exact START_STR (hts (.stringRef "SupplyGrid" 192 "there is no such shop") (by decide +kernel)) (hfs (.exactly (.string "SupplyGrid" 192) "java/lang/String") (by decide +kernel))
  · exact START_STR (hts (.stringRef "SupplyGrid" 194 "there is no such prescription") (by decide +kernel)) (hfs (.exactly (.string "SupplyGrid" 194) "java/lang/String") (by decide +kernel))
  · exact START_STR (hts (.stringRef "SupplyGrid" 196 "there is no such letter") (by decide +kernel)) (hfs (.exactly (.string "SupplyGrid" 196) "java/lang/String") (by decide +kernel))
  · exact START_STR (hts (.stringRef "SupplyGrid" 198 "the shop is down") (by decide +kernel)) (hfs (.exactly (.string "SupplyGrid" 198) "java/lang/String") (by decide +kernel))
set_option maxRecDepth 100000 in
set_option maxHeartbeats 4000000 in
theorem whole_start {p : Program} {e : Env} {s : State} {m : MethodId} {below : List Frame} {meth : Method} {c : Code} (l : Launch) (hfl : l.flags = flags0) {b L : Nat} {xs : Nat → Int32} (hLN : L ≤ 2560) (C0 : lw_At p s m meth c b L xs) : W p l e room_1 s m #[Value.ref b] below meth c s.heap [] 0 0 (lw_Z below #[Value.ref b] s) (entryFrame m ([Value.ref b] : List Value).toArray 7) := by
  obtain ⟨hx, hb, hr, hml, hown, hts, hX, hbl, hlocks, hgv⟩ := id C0
  have hW : ∀ w ∈ wt_L, w.before #[Value.ref b] s = true := fun w hw => hts w (List.mem_filter.mp hw).1
  obtain ⟨c0, i0, k0⟩ := u_known (C := cn_ak) (T := ct_ak) (N := 8) (n := 8) hW ci_ak (hW _ ww_104)
  obtain ⟨c1, i1, k1⟩ := u_known (C := cn_dk) (T := ct_dk) (N := 8) (n := 8) hW ci_dk (hW _ ww_80)
  obtain ⟨c2, i2, k2⟩ := u_known (C := cn_lt) (T := ct_lt) (N := 9) (n := 9) hW ci_lt (hW _ ww_192)
  obtain ⟨c3, i3, k3⟩ := u_known (C := cn_lr) (T := ct_lr) (N := 8) (n := 8) hW ci_lr (hW _ ww_185)
  obtain ⟨c4, i4, k4⟩ := u_known (C := cn_pr) (T := ct_pr) (N := 2) (n := 2) hW ci_pr (hW _ ww_86)
  obtain ⟨c5, i5, k5⟩ := u_known (C := cn_ps) (T := ct_ps) (N := 3) (n := 3) hW ci_ps (hW _ ww_399)
  obtain ⟨c6, i6, k6⟩ := u_known (C := cn_sg) (T := ct_sg) (N := 4) (n := 4) hW ci_sg (hW _ ww_70)
  obtain ⟨c7, i7, k7⟩ := u_known (C := cn_md) (T := ct_md) (N := 28) (n := 28) hW ci_md (hW _ ww_709)
  obtain ⟨dC, dI, hKc⟩ : ∃ (dC : Nat → ClassId) (dI : Nat → Nat → Nat), ∀ (k : Nat) (q : vw_C), cl_L[k]? = some q → u_Kn s q.1 q.2.1 q.2.2 (dC k) (dI k) := by
    refine ⟨fun k => if k = 0 then c0 else if k = 1 then c1 else if k = 2 then c2 else if k = 3 then c3 else if k = 4 then c4 else if k = 5 then c5 else if k = 6 then c6 else c7, fun k => if k = 0 then i0 else if k = 1 then i1 else if k = 2 then i2 else if k = 3 then i3 else if k = 4 then i4 else if k = 5 then i5 else if k = 6 then i6 else i7, ?_⟩
    intro k q hq
    match k, hq with
    | 0, hq => cases hq; exact k0
    | 1, hq => cases hq; exact k1
    | 2, hq => cases hq; exact k2
    | 3, hq => cases hq; exact k3
    | 4, hq => cases hq; exact k4
    | 5, hq => cases hq; exact k5
    | 6, hq => cases hq; exact k6
    | 7, hq => cases hq; exact k7
    | k + 8, hq => simp [cl_L] at hq
  obtain ⟨a0, hA0⟩ := arI (hW _ ww_102)
  obtain ⟨a1, hA1⟩ := arL (hW _ ww_929)
  obtain ⟨a2, hA2⟩ := arZ (hW _ ww_799)
  obtain ⟨a3, hA3⟩ := arO (hW _ ww_78)
  obtain ⟨a4, hA4⟩ := arO (hW _ ww_405)
  obtain ⟨a5, hA5⟩ := arO (hW _ ww_191)
  obtain ⟨ar, hTy⟩ : ∃ ar : Nat → ClassId, ∀ (k : Nat) (q : ClassId × FieldType), (ty_L ar)[k]? = some q → ArrOfT s q.1 q.2 ∧ va_RA s q.1 q.2 := by
    refine ⟨fun k => if k = 0 then a0 else if k = 1 then a1 else if k = 2 then a2 else if k = 3 then a3 else if k = 4 then a4 else a5, ?_⟩
    intro k q hq
    match k, hq with
    | 0, hq => cases hq; exact hA0
    | 1, hq => cases hq; exact hA1
    | 2, hq => cases hq; exact hA2
    | 3, hq => cases hq; exact hA3
    | 4, hq => cases hq; exact hA4
    | 5, hq => cases hq; exact hA5
    | k + 6, hq => simp [ty_L] at hq
  have hK : va_K (dC, dI) cl_L (ty_L ar) s := ⟨hKc, hTy⟩
  have hfs := flat_of_before _ hgv
  have hn1 : ∀ a : Nat, a < s.heap.size → ¬ mp_A s.heap.size a := fun a h => Nat.not_le.mpr h
  have hZ : mp_ZS s.heap.size s := START_ZS hts hfs hn1
  have hG : GG (dC, dI) ar s.heap.size s := ⟨fun w hw => wt_nw hw (hW w hw), hK, hZ⟩
  have xx : XX (dC, dI) ar p s m #[Value.ref b] c code 7 "SupplyGridLaw" := ⟨hx, hb, hml, hown, hW, hK⟩
  have hS : va_S (mp_A s.heap.size) s.heap s.heap [] := va_S.rf
  have hB : s.heap.size ≤ s.heap.size := Nat.le_refl _
  have hH : HH (dC, dI) s.heap.size (fun _ => none) s.heap := fun a e h => by cases h
  have hl := lv_entry ([.ref b]) (n := 7) (Nat.le_of_ble_eq_true rfl)
  rw [lg_entry_eq]
  generalize (lg_sl ([.ref b]) ++ List.replicate (7 - (lg_sl ([.ref b])).length) Slot.unset).toArray = ls at hl ⊢
  have hl : lv_has ls 7 [(0, .ref b)] := hl
  refine mn_new (ci := 6) (fs := [.null, .null, .null, .int 0]) xx hH hS hB cf_sg co_sg ci_sg ww_69 ww_70 ww_54 rfl df_sg (by decide) (by decide) dd_la_law_0 (fun qx σ1 zx fx ox H hH hS => ?_)
  refine lv_dup xx.1 xx.2.1 dd_la_law_3 rfl ?_
  refine mp_call xx (wt_mv _) hG hB hl.1 (mp_invI (av := []) xx mn_sg_init rfl ww_73 (Or.inl ww_71) ww_72 rfl dd_la_law_4) (kk_sg_init fx) (by decide) (Nat.le_of_ble_eq_true rfl) (by decide) (by decide) hH hS (fun v σa t0 H locs hp ht0 hvm hzz hH hS => ?_) (fun _ _ _ _ _ hz _ _ _ _ _ => by cases hz.1)
  obtain ⟨ho, ad1, P1, e1, o1⟩ := hp
  cases ho
  refine W.eq (g2 := F0 m 7 ls [.ref qx]) rfl ?_
  refine lv_astore_n (lv' := [(1, .ref qx), (0, .ref b)]) xx.1 xx.2.1 dd_la_law_7 rfl hl (by decide) rfl (fun ls hl => ?_)
  refine mn_new (ci := 7) (fs := [.null, .null, .null, .null, .null, .null, .null, .null, .null, .null, .null, .null, .null, .null, .null, .null, .null, .null, .null, .null, .null, .null, .int 0, .null, .int 0, .int 0, .int 0, .int 0]) xx hH hS hB cf_md co_md ci_md ww_708 ww_709 ww_60 rfl df_md (by decide) (by decide) dd_la_law_8 (fun qm σ2 zm fm om H hH hS => ?_)
  have nm := NOT_new P1 zm
  have P2 := LayP_keep P1 (fun kd i hl => om _ (nm kd i hl))
  refine lv_dup xx.1 xx.2.1 dd_la_law_11 rfl ?_
  refine mp_call xx (wt_mv _) hG hB hl.1 (mp_invI (av := []) xx mn_md_init rfl ww_712 (Or.inl ww_710) ww_711 rfl dd_la_law_12) (kk_md_init fm P2 nm (fun kd i h1 h2 h => by unfold LG at h; omega)) (by decide) (Nat.le_of_ble_eq_true rfl) (by decide) (by decide) hH hS (fun v σb t0 H locs hp ht0 hvm hzz hH hS => ?_) (fun _ _ _ _ _ hz _ _ _ _ _ => by cases hz.1)
  obtain ⟨ho, ad3, P3, A3, e3, o3⟩ := hp
  cases ho
  refine W.eq (g2 := F0 m 15 ls [.ref qm]) rfl ?_
  refine lv_astore_n (lv' := [(2, .ref qm), (1, .ref qx), (0, .ref b)]) xx.1 xx.2.1 dd_la_law_15 rfl hl (by decide) rfl (fun ls hl => ?_)
  refine lv_iconst (v := nI 1) xx.1 xx.2.1 dd_la_law_16 (by decide +kernel) ?_
  refine mn_newl xx hH hS hB ww_929 (by decide) (by decide) (by decide) dd_la_law_17 (fun qo σ3 zo fo oo H hH hS => ?_)
  have no := NOT_new P3 zo
  have P4 := LayP_keep P3 (fun kd i hl => oo _ (no kd i hl))
  have P5 := LayP_one (k0 := 15) (i0 := 0) (q := qo) P4 (by
    rw [fo]
    show some (.inl (ar 1, 1, .inr (.inl (fun _ => 0))) : va_E) = some (.inl (ar 1, 1, .inr (.inl (fun q => (V0 62 q).toInt64))))
    rw [show (fun q => (V0 62 q).toInt64) = fun _ => 0 from funext fun q => by show (0 : Int32).toInt64 = 0; decide +kernel]) no (fun z => by unfold LM LG at z; omega) (fun kd i _ => by unfold rfs; omega)
  obtain ⟨adF, hLF, ex, em, eo⟩ : ∃ adF : Nat → Nat → Nat, Lay ar adF (fun _ => false) (fun q => q) V0 M0 σ3 ∧ adF 0 0 = qx ∧ adF 13 0 = qm ∧ adF 15 0 = qo :=
    ⟨_, LayP_sub P5 (fun kd i hl => LAST hl), (adu_o (by omega)).trans ((A3 0 0 (Or.inl ⟨by decide, rfl⟩)).trans e1), (adu_o (by omega)).trans e3, adu_s⟩
  refine lv_astore_n (lv' := [(3, .ref qo), (2, .ref qm), (1, .ref qx), (0, .ref b)]) xx.1 xx.2.1 dd_la_law_19 rfl hl (by decide) rfl (fun ls hl => ?_)
  refine lv_iconst (v := nI 0) xx.1 xx.2.1 dd_la_law_20 (by decide +kernel) ?_
  refine lv_istore (lv' := [(4, .int (nI 0)), (3, .ref qo), (2, .ref qm), (1, .ref qx), (0, .ref b)]) xx.1 xx.2.1 dd_la_law_21 hl (by decide) rfl (fun ls hl => ?_)
  rw [← ex, ← em, ← eo] at hl
  exact law_loop xx hG hX hbl hfl hLN hr hlocks _ 0 adF _ _ V0 M0 0 0 _ H locs ls _ _ (Nat.zero_le _) (Nat.lt_succ_self _) hLF INV_0 (by decide) (by decide) (lv_sub hl [4, 3, 2, 1, 0] rfl) hH hS
set_option maxHeartbeats 4000000 in
theorem lw_walk (l : Launch) (hfl : l.flags = flags0) (b : Addr) (xs : List Int32) : MetFree l x (headSpec (Jvm.Cond.code x code maxLocals ret :: tables_1) room_1) (lw_P b xs) (fun _ _ _ _ _ => True) lw_Q := by
  refine MetFree.of_bodyS (code := code) (maxLocals := maxLocals) (ret := ret) (by decide) ?_ ?_
  · intro args s m h hn
    obtain ⟨meth, c, h1, h2, h3, h4, h5, h6, -, -⟩ := Cond.code_spec hn (atoms_spec (ws := Jvm.Cond.code x code maxLocals ret :: tables_1) h _ List.mem_cons_self)
    exact ⟨meth, c, h1, h2, h3, h4, h5, h6⟩
  · intro p e s m args below meth c s₁ B hml0 hP _
    obtain ⟨rfl, hx, hbd, hgv⟩ := hP
    obtain ⟨scr, harrAt, hlist, hof, hsmall⟩ := hx
    obtain ⟨hcb, hkn, -, -⟩ := State.arrayAt?_spec harrAt
    have hown : s.vm.findClass R_law = some m.cls := findClass_of_methodNamed B.named
    have hts0 : ∀ c ∈ (Jvm.Cond.code x code maxLocals ret :: tables_1), c.before #[Value.ref b] s = true := atoms_spec (ws := Jvm.Cond.code x code maxLocals ret :: tables_1) B.pre
    have hts : ∀ w ∈ lw_tbl, w.before #[Value.ref b] s = true := k2_hts_sels lw_privs (fun w hw => hts0 w (List.mem_cons_of_mem _ hw)) lw_privs_ok
    have hml : c.maxLocals = 7 := B.maxLocals_eq (hts0 _ List.mem_cons_self)
    have X₀ : Stand p l e room_1 s m #[Value.ref b] below meth c s₁ [] 0 0 := Stand.of_body B
    have hh0 : s₁.heap = s.heap := by rw [B.state]; rfl
    have hsz : scr.slots.size = xs.length := by rw [← Array.length_toList, hlist, List.length_map]
    have hval : ∀ j : Nat, j < xs.length → scr.slots[j]? = some (.int (xs.getD j 0)) := fun j hj => by
      rw [← Array.getElem?_toList, hlist]
      simp [hj]
    have hbl : b < s.heap.size := (Array.getElem?_eq_some_iff.mp hcb).1
    have hX : va_X b xs.length (fun j => xs.getD j 0) s s.heap := ⟨scr, hcb, hof, hkn, hsz, hval⟩
    have K : W p l e room_1 s m #[Value.ref b] below meth c s₁.heap [] 0 0 (lw_Z below #[Value.ref b] s) (entryFrame m ([Value.ref b] : List Value).toArray 7) := by
      rw [hh0]
      exact whole_start l hfl hbd ⟨B.exec, B.bytes, B.returns, hml, hown, hts, hX, hbl, B.notSynchronized, hgv⟩
    obtain ⟨t, a1, o, b1, b2, b3⟩ := K s₁ rfl X₀
    exact ⟨t, o, a1, b1, b2, b3⟩
theorem lw_pre_spec {args : Array Value} {s : State} (h : (Jvm.Cond.and given_1 narrow_1).before args s = true) (hr : rest_1_c.before args s = true) : ∃ (b : Addr) (xs : List Int32), lw_P b xs args s := by
  have hs := flat_of_before _ h
  have hq := flat_of_before _ hr
  have hc : (Cond.count 1).before args s = true := hs _ (by decide +kernel)
  have harr : (Cond.arrayOf (.arg 0) .int).before args s = true := hs _ (by decide +kernel)
  have hle : (Cond.le (.length (.arg 0)) (.int 2560)).before args s = true := hs _ (by decide +kernel)
  have hlen : (Cond.isInt (.length (.arg 0))).before args s = true := hq _ (by decide +kernel)
  have hall : (Cond.all (.arg 0) (.isInt (.elem (.arg 0) (.index 0)))).before args s = true := hq _ (by decide +kernel)
  obtain ⟨b, xs, hb, hx⟩ := State.ints_of_pre rfl harr hlen hall
  have hsm : xs.length < 2 ^ 31 := hx.choose_spec.2.2.2
  have hev : (Term.length (.arg 0)).eval args s none [] s = some (.int xs.length.toInt32) := hx.length_eval hb
  have hv := Cond.le_ints hev (show (Term.int 2560).eval args s none [] s = some (.int 2560) from rfl)
  have hd : xs.length.toInt32 ≤ 2560 := by
    simpa [Cond.before, Cond.holds, hv] using hle
  have hN : xs.length ≤ 2560 := (Int32.ofNat_le_ofNat hsm (by decide)).mp (show Int32.ofNat xs.length ≤ Int32.ofNat 2560 from hd)
  exact ⟨b, xs, Cond.one_arg hc (show args[0]? = some (.ref b) from hb), hx, hN, h⟩
theorem lw_comes (l : Launch) (hfl : l.flags = flags0) : Comes l x (Jvm.Cond.code x code maxLocals ret :: tables_1) room_1 (fun tb e args s => Calls_1 tb e args s ∧ rest_1 tb e args s ∧ Pre_1 tb e args s)
    (fun _ _ args s o t => lw_Q args s o t) := by
  intro p e ha hc hk s m args below hf hfit hheap happ hpre
  obtain ⟨b, xs, hP⟩ := lw_pre_spec hpre.2.2 hpre.2.1
  obtain ⟨k, o, h1, h2, h3, hQ⟩ := lw_walk l hfl b xs p e ha hc hk s m args below hf ((Spec.applies_iff_loose hf).mp happ).1 hP trivial
  exact ⟨k, o, h1, h2, h3, hQ⟩
theorem lw_frame {s t : State} {o : Outcome} {args : Array Value} (h : Framed s o t [] 601024 7293034) :
    Framed s o t (fieldLocs frame_1_writes args s ++ arrayLocs frame_1_arrays args s ++ staticLocs frame_1_statics s) 601024 7293034 := h
theorem lw_limb (L : Cond) (hL : ∀ (args : Array Value) (s t : State), L.after args s (.returned (some (.int 1))) t = true) :
    ArmFor flags0 classFile x code maxLocals ret World_1 tables_1 room_1 Calls_1 rest_1 Pre_1
      (fun tb e a s o t => postC L tb e a s o t ∧ Framed s o t (fieldLocs frame_1_writes a s ++ arrayLocs frame_1_arrays a s ++ staticLocs frame_1_statics s) 601024 7293034) := by
  intro l hfl _ _ p e ha hc hk s m args below hf hfit hheap happ hpre
  obtain ⟨k, o, h1, h2, h3, rfl, hF⟩ := lw_comes l hfl p e ha hc hk s m args below hf hfit hheap happ hpre
  exact ⟨k, _, h1, h2, h3, hL args s _, lw_frame hF⟩
theorem i_vc : Claimed_1_1 ∧ Claimed_1_2 := ⟨lw_limb limb_1_1 (fun args s t => by simp [limb_1_1, Cond.after, Cond.holds, Cond.value]), lw_limb limb_1_2 (fun args s t => Cond.after_iff.mpr (by
  first | (rw [show limb_1_2 = Cond.eq .result (.int 1) from rfl, Cond.eq_ints (x := 1) (y := 1) rfl rfl]; simp; done) | (simp [limb_1_2, Cond.value, Term.eval]; done)))⟩
