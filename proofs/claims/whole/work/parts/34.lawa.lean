def R_law : String := "VersionDepotLaw"
def lw_P (b : Addr) (xs : List Int32) (args : Array Value) (s : State) : Prop := args = #[.ref b] ∧ s.IntsAt b xs ∧ xs.length ≤ 1536 ∧ (Jvm.Cond.and given_1 narrow_1).before args s = true
def lw_Q (_ : Array Value) (s : State) (o : Outcome) (t : State) : Prop := o = .returned (some (.int 1)) ∧ Framed s o t [] 600000 7302250
def lw_Z (below : List Frame) (a : Array Value) (s : State) : State → Prop := fun t => ∃ o, t.status = .running ∧ Ended t below o ∧ lw_Q a s o t
/-- the law's own end, with 1 on the stack, nothing written that was there before, its room as the claim has it -/
theorem lw_ret {p : Program} {l : Launch} {e : Env} {s : State} {m : MethodId} {below : List Frame} {meth : Method} {c : Code} {b : Nat} (hx : p.tables.exec = Jvm.exec) (hb : c.code = code) (hr : meth.sig.returnType = ret) (hlocks : meth.locks = false) {pc : Nat} {H : Heap} {ls : Array Slot} (hdg : decode code pc = .ok (.ireturn, 1)) : W p l e room_1 s m #[Value.ref b] below meth c H [] 600000 7302250 (lw_Z below #[Value.ref b] s) (F0 m pc ls [.int 1]) := by
  intro T hT X
  obtain ⟨fs, hret, hrun, hended, hW, hframe⟩ := X.leave (v := some (.int 1)) (hlocks := hlocks) (fun h => by rw [hr] at h; cases h)
  have hmeth' : T.vm.method? m = some meth := X.method'
  refine ⟨T.setFrames fs, ?_, .returned (some (.int 1)), hrun, hended, rfl, ⟨_, rfl⟩, hW, hframe⟩
  jvm_step X.here [X.here.top, hx, hb, hdg, hmeth', hr, ret, narrow_b1]
  (try refine ⟨rfl, ?_⟩); (try refine ⟨rfl, ?_⟩)
  first | (intro acts; rw [hret _ acts rfl rfl rfl]) | rw [hret _ _ rfl rfl rfl]
  exact Steps.refl _
/-- what holds at the law's entry: the machine, the code, the tables' words (any of lw_tbl by 'hts w (by decide +kernel)'), the script of L ints xs at the cell b, what the Statement gives of the start (any of its parts by flat_of_before) -/
def lw_At (p : Program) (s : State) (m : MethodId) (meth : Method) (c : Code) (b L : Nat) (xs : Nat → Int32) : Prop :=
  p.tables.exec = Jvm.exec ∧ c.code = code ∧ meth.sig.returnType = ret ∧ c.maxLocals = 4 ∧ s.vm.findClass R_law = some m.cls ∧ (∀ w ∈ lw_tbl, w.before #[Value.ref b] s = true) ∧ va_X b L xs s s.heap ∧ b < s.heap.size ∧ meth.locks = false ∧ (Jvm.Cond.and given_1 narrow_1).before #[Value.ref b] s = true
/-! THE LAW: a merge is open only where HERE is a commit -/
theorem iv_same {K K2 : KT} (e3 : K2 3 = K 3) (e40 : K2 40 = K 40) (e41 : K2 41 = K 41) (h : vd_Iv K) : vd_Iv K2 := by
  intro z
  unfold vd_here
  rw [e3, e40]
  rw [e41] at z
  exact h z
theorem iv_0 {K2 : KT} (e : K2 41 0 = 0) : vd_Iv K2 := fun z => absurd e z
/-- the reference leaves the class's arrays alone -/
def mfj (j : Nat) : Prop := j = 3 ∨ j = 40 ∨ j = 41
theorem mf_mkM {K : KT} {row one two j : Nat} (h : mfj j) : vd_mkM K row one two j = K j := by
  unfold mfj at h
  exact (vd_mkM_spec (K := K) (row := row) (one := one) (two := two) _ rfl).2.2.2.2.2.2.2 j (by omega) (by omega) (by omega) (by omega) (by omega) (by omega) (by omega)
theorem mf_cm {K : KT} {j : Nat} (h : mfj j) : vd_cmKM K j = K j := by
  unfold vd_cmKM
  split
  · rfl
  · split
    · rfl
    · split
      · rfl
      · rw [mf_mkM h]
        unfold mfj at h
        exact vd_st_o (by omega)
theorem mf_shw {K : KT} {c j : Nat} (h : mfj j) : vd_shw K c j = K j := by
  unfold mfj at h
  exact vd_shw_o (by omega)
theorem mf_st {K : KT} {a i x j : Nat} (ha : 14 ≤ a ∧ (a ≤ 22 ∨ 47 ≤ a)) (h : mfj j) : vd_st K a i x j = K j := by
  unfold mfj at h
  exact vd_st_o (by omega)
theorem mf_fl {K : KT} {a i n : Nat} {g : Nat → Nat} {j : Nat} (ha : 14 ≤ a ∧ (a ≤ 22 ∨ 47 ≤ a)) (h : mfj j) : vd_fl K a i n g j = K j := by
  unfold mfj at h
  exact vd_fl_o (by omega)
theorem mf_sh {K : KT} {a b j : Nat} (h : mfj j) : vd_shK K a b j = K j := by
  unfold mfj at h
  exact vd_shK_o _ _ _ (by omega) (by omega)
theorem mf_mx {K : KT} {x y z w i j : Nat} (h : mfj j) : vd_mxl K x y z w i j = K j := by
  unfold mfj at h
  exact vd_mxl_o _ _ _ _ _ (by omega) (by omega) _
theorem mf_me {K : KT} {x : Int32} {j : Nat} (h : mfj j) : vd_meKM K x j = K j := by
  unfold vd_meKM
  split
  · rfl
  · split
    · rfl
    · unfold vd_meK2
      try dsimp only
      split
      · exact mf_sh h
      · split
        · rw [mf_shw h, mf_st (by decide) h, mf_sh h]
        · split
          · split
            · rw [mf_mx h, mf_sh h]
            · rw [mf_shw h, mf_mkM h, mf_mx h, mf_sh h]
          · rw [mf_st (by decide) h, mf_shw h, mf_mx h, mf_mx h, mf_sh h]
theorem mf_pi {K : KT} {x : Int32} {j : Nat} (h : mfj j) : vd_piKM K x j = K j := by
  unfold vd_piKM
  split
  · rfl
  · split
    · rfl
    · unfold vd_piK2
      try dsimp only
      split
      · exact mf_mx h
      · split
        · exact mf_mx h
        · split
          · exact mf_mx h
          · rw [mf_shw h, mf_mkM h, mf_mx h]
theorem mf_tu {K : KT} {x : Int32} {j : Nat} (h : mfj j) : vd_tuKM K x j = K j := by
  unfold vd_tuKM
  split
  · rfl
  · split
    · rfl
    · rw [mf_shw h, mf_st (by decide) h]
theorem mf_sw {K : KT} {j : Nat} (h : mfj j) : vd_swKM K j = K j := by
  unfold mfj at h
  exact vd_swKM_m (by omega) (by omega) (by omega) (by omega)
theorem iv_M {K1 K2 : KT} (h : vd_Iv K1) (m : ∀ j, mfj j → K2 j = K1 j) : vd_Iv K2 := iv_same (m 3 (Or.inl rfl)) (m 40 (Or.inr (Or.inl rfl))) (m 41 (Or.inr (Or.inr rfl))) h
theorem iv_cm {K : KT} (h : vd_Iv K) : vd_Iv (vd_cmK K) := by
  unfold vd_cmK
  split
  · exact h
  · split
    · exact h
    · split
      · exact h
      · exact iv_0 rfl
theorem iv_br {K : KT} (h : vd_Iv K) (x : Int32) : vd_Iv (if (vd_in 0 5 x && (K 3 x.toNatClampNeg == 0) && (vd_here K != 0)) = true then vd_st K 3 x.toNatClampNeg (vd_here K) else K) := by
  split
  · intro z
    show (if K 40 0 = x.toNatClampNeg then vd_here K else K 3 (K 40 0)) ≠ 0
    have := h z
    split
    · exact this
    · exact this
  · exact h
theorem iv_tu {K : KT} (h : vd_Iv K) (x : Int32) : vd_Iv (vd_tuK K x) := by
  unfold vd_tuK
  by_cases h1 : vd_there K x = false ∨ K 41 0 ≠ 0
  · rw [if_pos h1]
    exact h
  · rw [if_neg h1]
    split
    · exact h
    · exact iv_0 (Classical.byContradiction fun z => h1 (Or.inr z))
theorem iv_mk {K : KT} {src a b : Nat} : vd_mkK K src a b 41 = K 41 := vd_mkK_o (by decide) (by decide) (by decide) (by decide) (by decide) (by decide) (by decide) (by decide) (by decide) (by decide) (by decide) (by decide) (by decide) (by decide)
theorem iv_me {K : KT} (h : vd_Iv K) (x : Int32) : vd_Iv (vd_meK K x) := by
  unfold vd_meK
  by_cases h1 : vd_there K x = false ∨ vd_here K = 0 ∨ K 41 0 ≠ 0
  · rw [if_pos h1]
    exact h
  · rw [if_neg h1]
    have z41 : K 41 0 = 0 := Classical.byContradiction fun z => h1 (Or.inr (Or.inr z))
    split
    · exact h
    · split
      · exact h
      · split
        · exact iv_0 z41
        · unfold vd_maK
          try dsimp only
          split
          · split
            · exact iv_0 z41
            · refine iv_0 ?_
              rw [vd_mv_o (by decide) (by decide) (by decide), iv_mk]
              exact z41
          · intro _ z
            exact h1 (Or.inr (Or.inl z))
theorem iv_pi {K : KT} (h : vd_Iv K) (x : Int32) : vd_Iv (vd_piK K x) := by
  unfold vd_piK
  by_cases h1 : vd_hol K x = false ∨ vd_here K = 0 ∨ K 41 0 ≠ 0
  · rw [if_pos h1]
    exact h
  · rw [if_neg h1]
    have z41 : K 41 0 = 0 := Classical.byContradiction fun z => h1 (Or.inr (Or.inr z))
    split
    · exact h
    · split
      · exact iv_0 z41
      · split
        · exact iv_0 z41
        · split
          · exact iv_0 z41
          · refine iv_0 ?_
            rw [vd_mv_o (by decide) (by decide) (by decide), iv_mk]
            exact z41
theorem iv_ab {K : KT} (h : vd_Iv K) : vd_Iv (if K 41 0 = 0 then K else vd_mv (vd_st (vd_st K 41 0 0) 42 0 0) (vd_here K)) := by
  split
  · exact h
  · exact iv_0 rfl
theorem iv_rs {K : KT} (h : vd_Iv K) (x : Int32) : vd_Iv (if vd_hol K x = false ∨ K 41 0 ≠ 0 then K else vd_mv K x.toNatClampNeg) := by
  by_cases h1 : vd_hol K x = false ∨ K 41 0 ≠ 0
  · rw [if_pos h1]
    exact h
  · rw [if_neg h1]
    exact iv_0 (Classical.byContradiction fun z => h1 (Or.inr z))
theorem iv_rm {K : KT} (h : vd_Iv K) (x : Int32) : vd_Iv (if vd_there K x = false ∨ x.toNatClampNeg = K 40 0 then K else vd_st K 3 x.toNatClampNeg 0) := by
  by_cases h1 : vd_there K x = false ∨ x.toNatClampNeg = K 40 0
  · rw [if_pos h1]
    exact h
  · rw [if_neg h1]
    intro z
    show (if K 40 0 = x.toNatClampNeg then 0 else K 3 (K 40 0)) ≠ 0
    rw [if_neg (fun e => h1 (Or.inr e.symm))]
    exact h z
theorem iv_wr {K : KT} (h : vd_Iv K) (x y : Int32) : vd_Iv (if (vd_in 0 15 x && vd_in 0 9999 y) = true then vd_st K 0 x.toNatClampNeg y.toNatClampNeg else K) := by
  split
  · exact h
  · exact h
theorem iv_sg {K : KT} (h : vd_Iv K) (x : Int32) : vd_Iv (if vd_in 0 15 x = true then vd_stK K x.toNatClampNeg else K) := by
  split
  · unfold vd_stK
    refine iv_same ?_ ?_ ?_ h
    · rw [vd_st_o (by decide), vd_bk_o _ _ (by decide), vd_st_o (by decide)]
    · rw [vd_st_o (by decide), vd_bk_o _ _ (by decide), vd_st_o (by decide)]
    · rw [vd_st_o (by decide), vd_bk_o _ _ (by decide), vd_st_o (by decide)]
  · exact h
theorem iv_sw {K : KT} (h : vd_Iv K) : vd_Iv (vd_swK K) := iv_same (vd_swK_m (by decide) (by decide) (by decide) (by decide)) (vd_swK_m (by decide) (by decide) (by decide) (by decide)) (vd_swK_m (by decide) (by decide) (by decide) (by decide)) h
theorem mf_wr {K : KT} {c : Prop} [Decidable c] {a i x j : Nat} (ha : 14 ≤ a ∧ (a ≤ 22 ∨ 47 ≤ a)) (h : mfj j) : (if c then vd_st K a i x else K) j = K j := by
  split
  · exact mf_st ha h
  · rfl
theorem mf_wr2 {K : KT} {c : Prop} [Decidable c] {a i x j : Nat} (ha : 14 ≤ a ∧ (a ≤ 22 ∨ 47 ≤ a)) (h : mfj j) : (if c then K else vd_st K a i x) j = K j := by
  split
  · rfl
  · exact mf_st ha h
theorem mf_sg {K : KT} {c : Prop} [Decidable c] {i x v w j : Nat} (h : mfj j) : (if c then vd_st (vd_bl (vd_st K 14 i x) v) 19 w 0 else K) j = K j := by
  split
  · rw [mf_st (by decide) h, vd_bl_o _ _ (by unfold mfj at h; omega), mf_st (by decide) h]
  · rfl
theorem mf_rs {K : KT} {c : Prop} [Decidable c] {i x d j : Nat} (h : mfj j) : (if c then K else vd_shw (vd_st K 18 i x) d) j = K j := by
  split
  · rfl
  · rw [mf_shw h, mf_st (by decide) h]
theorem mf_ab {K : KT} {c : Prop} [Decidable c] {d j : Nat} (h : mfj j) : (if c then K else vd_shw (vd_fl (vd_st K 49 0 0) 19 0 16 (fun _ => 0)) d) j = K j := by
  split
  · rfl
  · rw [mf_shw h, mf_fl (by decide) h, mf_st (by decide) h]
theorem mf_co {K : KT} {c : Prop} [Decidable c] {a b j : Nat} (h : mfj j) : (if c then vd_shK K a b else K) j = K j := by
  split
  · exact mf_sh h
  · rfl
theorem vd_sw19 (x : Int32) : (x.toInt < 0 ∨ 18 < x.toInt) ∨ ∃ k : Nat, k ≤ 18 ∧ x = nI k := by
  by_cases h1 : x.toInt < 0
  · exact Or.inl (Or.inl h1)
  · by_cases h2 : 18 < x.toInt
    · exact Or.inl (Or.inr h2)
    · obtain ⟨c, _, hc, e⟩ := vd_ofI (lo := 0) (hi := 18) (x := x) (by omega) (by omega)
      exact Or.inr ⟨c, hc, e⟩
