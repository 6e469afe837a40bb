/-! PURE: commit -/
theorem vd_mk_bit (P : Nat → Bool) : ∀ n i, (vd_mk P n).testBit i = (decide (i < n) && P i)
  | 0, i => by
    show (0 : Nat).testBit i = _
    rw [Nat.zero_testBit, decide_eq_false (by omega), Bool.false_and]
  | n + 1, i => by
    show (vd_mk P n ||| (if P n = true then 2 ^ n else 0)).testBit i = _
    rw [Nat.testBit_or, vd_mk_bit P n i]
    by_cases e : i = n
    · subst e
      rw [decide_eq_false (Nat.lt_irrefl i), Bool.false_and, Bool.false_or, decide_eq_true (Nat.lt_succ_self i), Bool.true_and]
      cases hp : P i with
      | true => rw [if_pos rfl, Nat.testBit_two_pow_self]
      | false => rw [if_neg (by decide), Nat.zero_testBit]
    · have z : (if P n = true then 2 ^ n else 0).testBit i = false := by
        split
        · rw [Nat.testBit_two_pow, decide_eq_false (fun h => e h.symm)]
        · exact Nat.zero_testBit i
      rw [z, Bool.or_false]
      by_cases h : i < n
      · rw [decide_eq_true h, decide_eq_true (by omega)]
      · rw [decide_eq_false h, decide_eq_false (by omega)]
theorem vd_mk_0 {P : Nat → Bool} {n : Nat} : vd_mk P n = 0 ↔ vd_cn P n = 0 := by
  constructor
  · intro h
    refine vd_cn_zero (fun i hi => ?_)
    have := vd_mk_bit P n i
    rw [h, Nat.zero_testBit, decide_eq_true hi, Bool.true_and] at this
    exact this.symm
  · intro h
    apply Nat.eq_of_testBit_eq
    intro i
    rw [vd_mk_bit, Nat.zero_testBit]
    by_cases hi : i < n
    · rw [vd_cn_0 h i hi, Bool.and_false]
    · rw [decide_eq_false hi, Bool.false_and]
theorem rl_cl0 {K : KT} (h : vd_Rel K) (hB : vd_Bd K) : vd_clM K = 0 ↔ K 42 0 = 0 := by
  rw [← rl_b8 h hB]
  unfold vd_pc
  constructor
  · intro z
    apply Nat.eq_of_testBit_eq
    intro i
    rw [Nat.zero_testBit]
    by_cases hi : i < 32
    · exact vd_cn_0 z i hi
    · exact Nat.testBit_lt_two_pow (Nat.lt_of_le_of_lt (hB 42 0 (by decide)) (Nat.lt_of_lt_of_le (show vd_ub 42 < 2 ^ 32 by decide) (Nat.pow_le_pow_right (by decide) (by omega))))
  · intro z
    rw [z]
    exact vd_cn_zero (fun i _ => Nat.zero_testBit i)
/-- the reference's make -/
theorem vd_mkM_spec {K : KT} {row one two : Nat} (G : KT) (eG : G = vd_mkM K row one two) :
    (G 47 = fun b => if b = 0 then K 47 0 + 1 else K 47 b) ∧ (G 15 = fun b => if b = K 47 0 + 1 then 1 else K 15 b) ∧ (G 16 = fun b => if b = K 47 0 + 1 then one else K 16 b) ∧ (G 17 = fun b => if b = K 47 0 + 1 then two else K 17 b) ∧
    G 20 = bls20 (K 20) (fun i => K 14 (16 * row + i)) 16 ∧ (G 14 = fun b => if 16 * (K 47 0 + 1) ≤ b ∧ b < 16 * (K 47 0 + 1) + 16 then K 14 (16 * row + (b - 16 * (K 47 0 + 1))) else K 14 b) ∧ (G 18 = fun b => if b = K 48 0 then K 47 0 + 1 else K 18 b) ∧
    (∀ j, j ≠ 14 → j ≠ 15 → j ≠ 16 → j ≠ 17 → j ≠ 18 → j ≠ 20 → j ≠ 47 → G j = K j) := by
  have e1 : G = vd_st (vd_bls (vd_st (vd_st (vd_st (vd_cp (vd_st K 47 0 (K 47 0 + 1)) row (K 47 0 + 1)) 15 (K 47 0 + 1) 1) 16 (K 47 0 + 1) one) 17 (K 47 0 + 1) two) (16 * (K 47 0 + 1)) 16) 18 (K 48 0) (K 47 0 + 1) := by
    rw [eG]
    unfold vd_mkM
    dsimp only
    rw [vd_bls_o (a := 48) _ _ (by decide)]
    rfl
  have o : ∀ j, j ≠ 18 → j ≠ 20 → j ≠ 17 → j ≠ 16 → j ≠ 15 → G j = vd_cp (vd_st K 47 0 (K 47 0 + 1)) row (K 47 0 + 1) j := fun j h18 h20 h17 h16 h15 => by
    rw [e1, vd_st_o h18, vd_bls_o _ _ h20, vd_st_o h17, vd_st_o h16, vd_st_o h15]
  have e14 : (vd_cp (vd_st K 47 0 (K 47 0 + 1)) row (K 47 0 + 1) 14 = fun b => if 16 * (K 47 0 + 1) ≤ b ∧ b < 16 * (K 47 0 + 1) + 16 then K 14 (16 * row + (b - 16 * (K 47 0 + 1))) else K 14 b) := by
    unfold vd_cp
    rw [vd_fl_i]
    rfl
  refine ⟨?_, ?_, ?_, ?_, ?_, ?_, ?_, ?_⟩
  · rw [o 47 (by decide) (by decide) (by decide) (by decide) (by decide)]
    rfl
  · rw [e1, vd_st_o (by decide), vd_bls_o _ _ (by decide), vd_st_o (by decide), vd_st_o (by decide)]
    rfl
  · rw [e1, vd_st_o (by decide), vd_bls_o _ _ (by decide), vd_st_o (by decide)]
    rfl
  · rw [e1, vd_st_o (by decide), vd_bls_o _ _ (by decide)]
    rfl
  · rw [e1, vd_st_o (by decide), vd_bls_20, vd_st_o (by decide), vd_st_o (by decide), vd_st_o (by decide), vd_st_o (by decide), vd_st_o (by decide), vd_st_o (by decide), e14]
    unfold vd_cp
    rw [vd_fl_o (by decide), vd_st_o (by decide)]
    refine bls20_congr (fun i hi => ?_)
    show (if 16 * (K 47 0 + 1) ≤ 16 * (K 47 0 + 1) + i ∧ 16 * (K 47 0 + 1) + i < 16 * (K 47 0 + 1) + 16 then K 14 (16 * row + (16 * (K 47 0 + 1) + i - 16 * (K 47 0 + 1))) else _) = _
    rw [if_pos (by omega), Nat.add_sub_cancel_left]
  · rw [o 14 (by decide) (by decide) (by decide) (by decide) (by decide), e14]
  · rw [e1, vd_st_s, vd_bls_o _ _ (by decide)]
    rfl
  · intro j h14 h15 h16 h17 h18 h20 h47
    rw [o j h18 h20 h17 h16 h15]
    unfold vd_cp
    rw [vd_fl_o h14, vd_st_o h47]
/-- both sides have made a commit -/
theorem rl_made {K K2 : KT} {src a b : Nat} (h : vd_Rel K) (hB : vd_Bd K) (hs : src = 1 ∨ src = 2) (hm : K 43 0 < 30) (ha : a ≤ K 43 0) (hb : b ≤ K 43 0) (Kc : KT) (eC : Kc = vd_mkK K src a b)
    (c1 : ∀ j, j ∈ [4, 5, 6, 7, 9, 10, 11, 12, 13, 43, 44, 45, 46] → K2 j = Kc j) (m47 : K2 47 0 = K 43 0 + 1) (m15 : K2 15 = fun c => if c = K 43 0 + 1 then 1 else K 15 c) (m16 : K2 16 = fun c => if c = K 43 0 + 1 then a else K 16 c) (m17 : K2 17 = fun c => if c = K 43 0 + 1 then b else K 17 c)
    (m20 : K2 20 = bls20 (K 20) (fun i => K src i) 16) (m14 : ∀ c f, c ≤ 30 → f < 16 → K2 14 (16 * c + f) = if c = K 43 0 + 1 then K src f else K 14 (16 * c + f))
    (q1 : K2 48 0 = K2 40 0) (q2 : K2 49 0 = K2 41 0) (q3 : K2 18 = K2 3) (w0 : rl_W 496 (K2 14) (K2 0)) (w1 : rl_W 512 (K2 14) (K2 1)) (q4 : rl_C (K2 42 0) (K2 19)) (q5 : rl_T (K 43 0 + 1) (K2 41 0) (K2 3)) : vd_Rel K2 := by
  obtain ⟨r1, r2, r3, r4, r5, r6, r7, r8, r9, r10, r11, r12, r13⟩ := h
  obtain ⟨E43, E44, E5, E6, E7, hR, hC, hF, hG, E9⟩ := rl_make hs hB hm ha hb r10 r11 r12 (fun c g1 g2 g3 => (r7.2 c g1 g2).2 g3) Kc eC
  have hv : ∀ i, i < 16 → K src i ≤ 9999 := fun i hi => by
    rcases hs with rfl | rfl
    · exact hB 1 i hi
    · exact hB 2 i hi
  unfold vd_Rel
  rw [c1 4 (by decide), c1 5 (by decide), c1 6 (by decide), c1 7 (by decide), c1 9 (by decide), c1 10 (by decide), c1 11 (by decide), c1 12 (by decide), c1 13 (by decide), c1 43 (by decide), c1 44 (by decide), c1 45 (by decide), c1 46 (by decide), E43, m47, m15, m16, m17, m20, E5, E6, E7, E9]
  refine ⟨⟨rfl, q1, q2⟩, ⟨q3, by rw [r2.2.1], by rw [r2.2.2]⟩, fun c f hc hf => ?_, w0, w1, q4, ?_, ?_, q5, hR, hF, hG, rl_B_n r13 16 hv⟩
  · rw [m14 c f hc hf]
    have := hC c f hc hf
    unfold vd_cnt at this
    rw [this]
    split
    · rfl
    · exact r3 c f hc hf
  · rw [E44]
    refine ⟨?_, fun c h1 h2 => ?_⟩
    · rw [Nat.testBit_or, r7.1, Nat.testBit_two_pow, decide_eq_false (by omega)]
      rfl
    · rw [Nat.testBit_or, Nat.testBit_two_pow]
      show ((_ || decide (K 43 0 + 1 = c)) = true ↔ (if c = K 43 0 + 1 then 1 else K 15 c) ≠ 0) ∧ _
      by_cases e : c = K 43 0 + 1
      · rw [if_pos e, decide_eq_true e.symm, Bool.or_true]
        exact ⟨⟨fun _ => by decide, fun _ => rfl⟩, fun _ => by omega⟩
      · rw [if_neg e, decide_eq_false (fun z => e z.symm), Bool.or_false]
        exact ⟨(r7.2 c h1 h2).1, fun z => Nat.le_succ_of_le ((r7.2 c h1 h2).2 z)⟩
  · refine ⟨?_, fun c h1 h2 => ?_⟩
    · show (if 0 = K 43 0 + 1 then _ else K 7 0) = 0
      rw [if_neg (by omega)]
      exact r8.1
    · show (if c = K 43 0 + 1 then a else K 5 c) < c ∧ (if c = K 43 0 + 1 then b else K 6 c) < c ∧ (if c = K 43 0 + 1 then 2 ^ (K 43 0 + 1) ||| K 7 a ||| K 7 b else K 7 c) = 2 ^ c ||| (if (if c = K 43 0 + 1 then a else K 5 c) = K 43 0 + 1 then _ else K 7 (if c = K 43 0 + 1 then a else K 5 c)) ||| (if (if c = K 43 0 + 1 then b else K 6 c) = K 43 0 + 1 then _ else K 7 (if c = K 43 0 + 1 then b else K 6 c))
      by_cases e : c = K 43 0 + 1
      · rw [if_pos e, if_pos e, if_pos e, if_neg (by omega), if_neg (by omega), e]
        exact ⟨by omega, by omega, rfl⟩
      · obtain ⟨g1, g2, g3⟩ := r8.2 c h1 (by omega)
        rw [if_neg e, if_neg e, if_neg e, if_neg (by omega), if_neg (by omega)]
        exact ⟨g1, g2, g3⟩
theorem vd_cmK_m {K : KT} {j : Nat} (h1 : 14 ≤ j) (h2 : j ≤ 22 ∨ 47 ≤ j) : vd_cmK K j = K j := by
  unfold vd_cmK
  split
  · rfl
  · split
    · rfl
    · split
      · rfl
      · rw [vd_st_o (by omega), vd_st_o (by omega), vd_mkK_o (by omega) (by omega) (by omega) (by omega) (by omega) (by omega) (by omega) (by omega) (by omega) (by omega) (by omega) (by omega) (by omega) (by omega)]
def vd_Iv (K : KT) : Prop := K 41 0 ≠ 0 → vd_here K ≠ 0
theorem op_commit {K : KT} (h : vd_Rel K) (hB : vd_Bd K) (hI : vd_Iv K) : vd_cmR K = vd_cmRM (vd_cmK K) ∧ vd_Rel (vd_cmKM (vd_cmK K)) := by
  have m : ∀ j, 14 ≤ j → (j ≤ 22 ∨ 47 ≤ j) → vd_cmK K j = K j := fun j h1 h2 => vd_cmK_m h1 h2
  have a1 : vd_clM (vd_cmK K) = vd_clM K := by unfold vd_clM; rw [m 19 (by decide) (by decide)]
  have a2 : vd_hereM (vd_cmK K) = vd_here K := by rw [← rl_here h]; unfold vd_hereM; rw [m 18 (by decide) (by decide), m 48 (by decide) (by decide)]
  have a3 : vd_same (vd_cmK K) 32 (vd_here K) = vd_ash K 1 := by rw [← rl_ash h hB, rl_here h]; unfold vd_same; rw [m 14 (by decide) (by decide)]
  have hM : K 43 0 ≤ 30 := hB 43 0 (by decide)
  have hT := rl_hereM h
  have h41 : K 41 0 ≤ K 43 0 := h.2.2.2.2.2.2.2.2.1.2
  have b1 : vd_cmK K 49 0 = K 41 0 := by rw [m 49 (by decide) (by decide)]; exact h.1.2.2
  have b2 : vd_cmK K 47 0 = K 43 0 := by rw [m 47 (by decide) (by decide)]; exact h.1.1
  have b3 : vd_clM K = 0 ↔ K 42 0 = 0 := rl_cl0 h hB
  unfold vd_cmR vd_cmRM vd_cmKM
  rw [a1, a2, a3, b1, b2]
  by_cases c1 : K 42 0 = 0
  · have n1 : ¬ K 42 0 ≠ 0 := fun z => z c1
    have n2 : ¬ vd_clM K ≠ 0 := fun z => z (b3.mpr c1)
    rw [if_neg n1, if_neg n2, if_neg n2]
    by_cases c2 : K 41 0 = 0 ∧ vd_ash K 1 = true
    · rw [if_pos c2, if_pos c2, if_pos c2]
      refine ⟨rfl, ?_⟩
      unfold vd_cmK
      rw [if_neg n1, if_pos c2]
      exact h
    · rw [if_neg c2, if_neg c2, if_neg c2]
      by_cases c3 : K 43 0 = 30
      · rw [if_pos (by omega), if_pos c3, if_pos c3]
        refine ⟨rfl, ?_⟩
        unfold vd_cmK
        rw [if_neg n1, if_neg c2, if_pos (by omega)]
        exact h
      · rw [if_neg (by omega), if_neg c3, if_neg c3]
        refine ⟨rfl, ?_⟩
        have one : (if vd_here K ≠ 0 then vd_here K else K 41 0) = vd_here K := by
          split
          · rfl
          · rename_i z
            by_cases z2 : K 41 0 = 0
            · omega
            · exact absurd (hI z2) z
        have two : (if vd_here K ≠ 0 then K 41 0 else 0) = K 41 0 := by
          split
          · rfl
          · rename_i z
            by_cases z2 : K 41 0 = 0
            · omega
            · exact absurd (hI z2) z
        rw [one, two]
        have eC : vd_cmK K = vd_st (vd_st (vd_mkK K 1 (vd_here K) (K 41 0)) 3 (K 40 0) (K 43 0 + 1)) 41 0 0 := by
          unfold vd_cmK
          rw [if_neg n1, if_neg c2, if_neg (by omega)]
        obtain ⟨g47, g15, g16, g17, g20, g14, g18, go⟩ := vd_mkM_spec (K := vd_st (vd_cmK K) 49 0 0) (row := 32) (one := vd_here K) (two := K 41 0) _ rfl
        generalize vd_mkM (vd_st (vd_cmK K) 49 0 0) 32 (vd_here K) (K 41 0) = G at *
        have o : ∀ j, j ≠ 49 → vd_st (vd_cmK K) 49 0 0 j = vd_cmK K j := fun j hj => vd_st_o hj
        rw [o 47 (by decide)] at g47 g15 g16 g17 g14 g18
        rw [o 15 (by decide)] at g15
        rw [o 16 (by decide)] at g16
        rw [o 17 (by decide)] at g17
        rw [o 20 (by decide), o 14 (by decide)] at g20
        rw [o 14 (by decide)] at g14
        rw [o 18 (by decide), o 48 (by decide)] at g18
        rw [m 47 (by decide) (by decide), h.1.1] at g47 g15 g16 g17 g14 g18
        rw [m 15 (by decide) (by decide)] at g15
        rw [m 16 (by decide) (by decide)] at g16
        rw [m 17 (by decide) (by decide)] at g17
        rw [m 20 (by decide) (by decide), m 14 (by decide) (by decide)] at g20
        rw [m 14 (by decide) (by decide)] at g14
        rw [m 18 (by decide) (by decide), m 48 (by decide) (by decide), h.1.2.1, h.2.1.1] at g18
        have c0 : ∀ j, j ≠ 41 → j ≠ 3 → j ∉ [14, 15, 16, 17, 18, 20, 47, 49] → G j = vd_mkK K 1 (vd_here K) (K 41 0) j := fun j h41 h3 hn => by
          simp only [List.mem_cons, List.not_mem_nil, or_false, not_or] at hn
          rw [go j hn.1 hn.2.1 hn.2.2.1 hn.2.2.2.1 hn.2.2.2.2.1 hn.2.2.2.2.2.1 hn.2.2.2.2.2.2.1, o j hn.2.2.2.2.2.2.2, eC, vd_st_o h41, vd_st_o h3]
        have c3' : G 3 = fun b => if b = K 40 0 then K 43 0 + 1 else K 3 b := by
          rw [go 3 (by decide) (by decide) (by decide) (by decide) (by decide) (by decide) (by decide), o 3 (by decide), eC, vd_st_o (by decide), vd_st_s, vd_mkK_3]
        have c41 : G 41 0 = 0 := by
          rw [go 41 (by decide) (by decide) (by decide) (by decide) (by decide) (by decide) (by decide), o 41 (by decide), eC, vd_st_s]
          rfl
        have ko : ∀ j, j ∈ [0, 1, 40, 42] → G j = K j := fun j hj => by
          simp only [List.mem_cons, List.not_mem_nil, or_false] at hj
          rw [c0 j (by omega) (by omega) (by simp only [List.mem_cons, List.not_mem_nil, or_false, not_or]; omega), vd_mkK_o (by omega) (by omega) (by omega) (by omega) (by omega) (by omega) (by omega) (by omega) (by omega) (by omega) (by omega) (by omega) (by omega) (by omega)]
        have g14' : ∀ b, 496 ≤ b → G 14 b = K 14 b := fun b hb => by
          rw [g14]
          exact if_neg (by omega)
        refine rl_made h hB (Or.inl rfl) (by omega) hT h41 _ rfl ?_ ?_ g15 g16 g17 ?_ ?_ ?_ ?_ ?_ ?_ ?_ ?_ ?_
        · intro j hj
          simp only [List.mem_cons, List.not_mem_nil, or_false] at hj
          exact c0 j (by omega) (by omega) (by simp only [List.mem_cons, List.not_mem_nil, or_false, not_or]; omega)
        · rw [g47]
          rfl
        · rw [g20]
          exact bls20_congr (fun i hi => h.2.2.2.2.1 i hi)
        · intro c f hc hf
          rw [g14]
          show (if 16 * (K 43 0 + 1) ≤ 16 * c + f ∧ 16 * c + f < 16 * (K 43 0 + 1) + 16 then K 14 (16 * 32 + (16 * c + f - 16 * (K 43 0 + 1))) else K 14 (16 * c + f)) = _
          by_cases e : c = K 43 0 + 1
          · rw [if_pos (by omega), if_pos e, e, Nat.add_sub_cancel_left]
            exact h.2.2.2.2.1 f hf
          · rw [if_neg (by omega), if_neg e]
        · rw [go 48 (by decide) (by decide) (by decide) (by decide) (by decide) (by decide) (by decide), o 48 (by decide), m 48 (by decide) (by decide), ko 40 (by decide)]
          exact h.1.2.1
        · rw [go 49 (by decide) (by decide) (by decide) (by decide) (by decide) (by decide) (by decide), c41]
          rfl
        · rw [g18, c3']
        · intro f hf
          rw [g14' _ (by omega), ko 0 (by decide)]
          exact h.2.2.2.1 f hf
        · intro f hf
          rw [g14' _ (by omega), ko 1 (by decide)]
          exact h.2.2.2.2.1 f hf
        · rw [ko 42 (by decide), go 19 (by decide) (by decide) (by decide) (by decide) (by decide) (by decide) (by decide), o 19 (by decide), m 19 (by decide) (by decide)]
          exact h.2.2.2.2.2.1
        · rw [c41, c3']
          refine rl_T_set ⟨fun b => ?_, Nat.zero_le _⟩ (Nat.le_refl _)
          exact Nat.le_succ_of_le (h.2.2.2.2.2.2.2.2.1.1 b)
  · have n2 : vd_clM K ≠ 0 := fun z => c1 (b3.mp z)
    rw [if_pos c1, if_pos n2, if_pos n2]
    refine ⟨rfl, ?_⟩
    unfold vd_cmK
    rw [if_pos c1]
    exact h
