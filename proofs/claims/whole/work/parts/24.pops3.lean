/-! PURE: operations that move HEAD -/
theorem vd_shw_o {K : KT} {c a : Nat} (h : a ≠ 14) : vd_shw K c a = K a := by
  unfold vd_shw vd_cp
  rw [vd_fl_o h, vd_fl_o h]
theorem vd_shw_14 {K : KT} {c b : Nat} (hc : c ≤ 30 ∨ c = 33) : vd_shw K c 14 b = if 496 ≤ b ∧ b < 512 then K 14 (16 * c + (b - 496)) else if 512 ≤ b ∧ b < 528 then K 14 (16 * c + (b - 512)) else K 14 b := by
  unfold vd_shw vd_cp
  rw [vd_fl_i, vd_fl_i]
  show (if 16 * 31 ≤ b ∧ b < 16 * 31 + 16 then (if 16 * 32 ≤ 16 * c + (b - 16 * 31) ∧ 16 * c + (b - 16 * 31) < 16 * 32 + 16 then K 14 (16 * c + (16 * c + (b - 16 * 31) - 16 * 32)) else K 14 (16 * c + (b - 16 * 31))) else if 16 * 32 ≤ b ∧ b < 16 * 32 + 16 then K 14 (16 * c + (b - 16 * 32)) else K 14 b) = _
  by_cases h1 : 496 ≤ b ∧ b < 512
  · rw [if_pos (by omega), if_pos h1, if_neg (by omega)]
  · rw [if_neg (by omega), if_neg h1]
theorem vd_mv_o {K : KT} {c a : Nat} (h0 : a ≠ 0) (h1 : a ≠ 1) (h3 : a ≠ 3) : vd_mv K c a = K a := by
  unfold vd_mv
  rw [vd_fl_o h0, vd_fl_o h1, vd_st_o h3]
theorem vd_mv_3 {K : KT} {c : Nat} : vd_mv K c 3 = fun b => if b = K 40 0 then c else K 3 b := by
  unfold vd_mv
  rw [vd_fl_o (by decide), vd_fl_o (by decide), vd_st_s]
theorem vd_mv_0 {K : KT} {c f : Nat} (hf : f < 16) : vd_mv K c 0 f = vd_cnt K c f := by
  unfold vd_mv
  rw [vd_fl_i]
  show (if 0 ≤ f ∧ f < 0 + 16 then vd_cnt K c (f - 0) else _) = _
  rw [if_pos (by omega)]
  rfl
theorem vd_mv_1 {K : KT} {c f : Nat} (hf : f < 16) : vd_mv K c 1 f = vd_cnt K c f := by
  unfold vd_mv
  rw [vd_fl_o (by decide), vd_fl_i]
  show (if 0 ≤ f ∧ f < 0 + 16 then vd_cnt K c (f - 0) else _) = _
  rw [if_pos (by omega)]
  rfl
/-- index and work are as c; contents, commits and objects stay -/
theorem rl_moved {K K2 : KT} {c : Nat} (h : vd_Rel K) (hc : c ≤ 30) (hs : ∀ a, a ∈ [43, 44, 45, 46, 47, 4, 5, 6, 7, 9, 10, 11, 12, 13, 15, 16, 17, 20] → K2 a = K a) (e0 : ∀ f, f < 16 → K2 0 f = vd_cnt K c f) (e1 : ∀ f, f < 16 → K2 1 f = vd_cnt K c f)
    (g0 : ∀ b, b < 496 → K2 14 b = K 14 b) (g1 : ∀ f, f < 16 → K2 14 (496 + f) = K 14 (16 * c + f)) (g2 : ∀ f, f < 16 → K2 14 (512 + f) = K 14 (16 * c + f)) (q1 : K2 48 0 = K2 40 0) (q2 : K2 49 0 = K2 41 0) (q3 : K2 18 = K2 3) (q4 : rl_C (K2 42 0) (K2 19)) (q5 : rl_T (K 43 0) (K2 41 0) (K2 3)) : vd_Rel K2 := by
  obtain ⟨r1, r2, r3, r4, r5, r6, r7, r8, r9, r10, r11, r12, r13⟩ := h
  unfold vd_Rel
  rw [hs 43 (by decide), hs 44 (by decide), hs 45 (by decide), hs 46 (by decide), hs 47 (by decide), hs 4 (by decide), hs 5 (by decide), hs 6 (by decide), hs 7 (by decide), hs 9 (by decide), hs 10 (by decide), hs 11 (by decide), hs 12 (by decide), hs 13 (by decide), hs 15 (by decide), hs 16 (by decide), hs 17 (by decide), hs 20 (by decide)]
  refine ⟨⟨r1.1, q1, q2⟩, ⟨q3, r2.2⟩, fun d f hd hf => ?_, fun f hf => ?_, fun f hf => ?_, q4, r7, r8, q5, r10, r11, r12, r13⟩
  · rw [g0 _ (by omega)]
    exact r3 d f hd hf
  · rw [g1 f hf, e0 f hf]
    exact r3 c f hc hf
  · rw [g2 f hf, e1 f hf]
    exact r3 c f hc hf
theorem vd_shw_lo {K : KT} {c b : Nat} (hc : c ≤ 30 ∨ c = 33) (hb : b < 496) : vd_shw K c 14 b = K 14 b := by rw [vd_shw_14 hc, if_neg (by omega), if_neg (by omega)]
theorem vd_shw_w {K : KT} {c f : Nat} (hc : c ≤ 30 ∨ c = 33) (hf : f < 16) : vd_shw K c 14 (496 + f) = K 14 (16 * c + f) := by rw [vd_shw_14 hc, if_pos (by omega), Nat.add_sub_cancel_left]
theorem vd_shw_x {K : KT} {c f : Nat} (hc : c ≤ 30 ∨ c = 33) (hf : f < 16) : vd_shw K c 14 (512 + f) = K 14 (16 * c + f) := by rw [vd_shw_14 hc, if_neg (by omega), if_pos (by omega), Nat.add_sub_cancel_left]
theorem rl_T_set {M g c i : Nat} {a3 : Nat → Nat} (h : rl_T M g a3) (hc : c ≤ M) : rl_T M g (fun b => if b = i then c else a3 b) := by
  refine ⟨fun b => ?_, h.2⟩
  show (if b = i then c else a3 b) ≤ M
  split
  · exact hc
  · exact h.1 b
/-- HEAD moves to c on both sides -/
theorem rl_mv {K : KT} {c : Nat} (h : vd_Rel K) (hB : vd_Bd K) (hc : c ≤ K 43 0) (K1 : KT) (e1 : K1 = vd_mv K c) : vd_Rel (vd_shw (vd_st K1 18 (K1 48 0) c) c) := by
  subst e1
  have hM : K 43 0 ≤ 30 := hB 43 0 (by decide)
  have h48 : vd_mv K c 48 0 = K 40 0 := h.1.2.1
  refine rl_moved h (c := c) (by omega) ?_ ?_ ?_ ?_ ?_ ?_ ?_ ?_ ?_ ?_ ?_
  · intro a ha
    simp only [List.mem_cons, List.not_mem_nil, or_false] at ha
    rw [vd_shw_o (by omega), vd_st_o (by omega), vd_mv_o (by omega) (by omega) (by omega)]
  · intro f hf
    rw [vd_shw_o (by decide), vd_st_o (by decide)]
    exact vd_mv_0 hf
  · intro f hf
    rw [vd_shw_o (by decide), vd_st_o (by decide)]
    exact vd_mv_1 hf
  · intro b hb
    rw [vd_shw_lo (Or.inl (by omega)) hb, vd_st_o (by decide), vd_mv_o (by decide) (by decide) (by decide)]
  · intro f hf
    rw [vd_shw_w (Or.inl (by omega)) hf, vd_st_o (by decide), vd_mv_o (by decide) (by decide) (by decide)]
  · intro f hf
    rw [vd_shw_x (Or.inl (by omega)) hf, vd_st_o (by decide), vd_mv_o (by decide) (by decide) (by decide)]
  · exact h.1.2.1
  · exact h.1.2.2
  · rw [vd_shw_o (by decide), vd_shw_o (by decide), vd_st_s, vd_st_o (by decide), vd_mv_3, h48, vd_mv_o (by decide) (by decide) (by decide), h.2.1.1]
  · exact h.2.2.2.2.2.1
  · rw [vd_shw_o (a := 3) (by decide), vd_st_o (a := 3) (by decide), vd_mv_3]
    exact rl_T_set h.2.2.2.2.2.2.2.2.1 hc
theorem op_reset {K : KT} (h : vd_Rel K) (hB : vd_Bd K) (x : Int32) (K1 : KT) (e1 : K1 = if vd_hol K x = false ∨ K 41 0 ≠ 0 then K else vd_mv K x.toNatClampNeg) :
    (if vd_hol K x = false ∨ K 41 0 ≠ 0 then (-1 : Int32) else nI 0) = (if vd_stoM K1 x = false ∨ K1 49 0 ≠ 0 then (-1 : Int32) else nI 0) ∧ vd_Rel (if vd_stoM K1 x = false ∨ K1 49 0 ≠ 0 then K1 else vd_shw (vd_st K1 18 (K1 48 0) x.toNatClampNeg) x.toNatClampNeg) := by
  have hs : vd_stoM K1 x = vd_hol K x := by
    rw [← rl_sto h, e1]
    split
    · rfl
    · rfl
  have h9 : K1 49 0 = K 41 0 := by
    rw [e1]
    split
    · exact h.1.2.2
    · exact h.1.2.2
  rw [hs, h9]
  refine ⟨rfl, ?_⟩
  by_cases hq : vd_hol K x = false ∨ K 41 0 ≠ 0
  · rw [if_pos hq]
    rw [if_pos hq] at e1
    rw [e1]
    exact h
  · rw [if_neg hq]
    rw [if_neg hq] at e1
    have hb : vd_hol K x = true := by
      cases hz : vd_hol K x with
      | true => rfl
      | false => exact absurd (Or.inl hz) hq
    obtain ⟨c, h1, h2, rfl, h3⟩ := vd_hol_t hb
    rw [nI_clamp (show c < 2 ^ 31 by omega)] at e1 ⊢
    exact rl_mv h hB (rl_hol_le h h1 h2 h3) K1 e1
theorem op_branch {K : KT} (h : vd_Rel K) (x : Int32) (K1 : KT) (e1 : K1 = if (vd_in 0 5 x && (K 3 x.toNatClampNeg == 0) && (vd_here K != 0)) = true then vd_st K 3 x.toNatClampNeg (vd_here K) else K) :
    (if (vd_in 0 5 x && (K 3 x.toNatClampNeg == 0) && (vd_here K != 0)) = true then nI 0 else (-1 : Int32)) = (if (vd_in 0 5 x && (K1 18 x.toNatClampNeg == 0) && (vd_hereM K1 != 0)) = true then nI 0 else (-1 : Int32)) ∧
    vd_Rel (if (vd_in 0 5 x && (K1 18 x.toNatClampNeg == 0) && (vd_hereM K1 != 0)) = true then vd_st K1 18 x.toNatClampNeg (vd_hereM K1) else K1) := by
  have e18 : K1 18 = K 3 := by
    rw [e1]
    split
    · exact h.2.1.1
    · exact h.2.1.1
  have eh : vd_hereM K1 = vd_here K := by
    rw [← rl_here h, e1]
    split
    · rfl
    · rfl
  rw [e18, eh]
  refine ⟨rfl, ?_⟩
  by_cases hq : (vd_in 0 5 x && (K 3 x.toNatClampNeg == 0) && (vd_here K != 0)) = true
  · rw [if_pos hq]
    rw [if_pos hq] at e1
    rw [e1]
    obtain ⟨r1, r2, r3, r4, r5, r6, r7, r8, r9, r10, r11, r12, r13⟩ := h
    refine ⟨r1, ⟨?_, r2.2⟩, r3, r4, r5, r6, r7, r8, ?_, r10, r11, r12, r13⟩
    · show (fun b => if b = x.toNatClampNeg then vd_here K else K 18 b) = (fun b => if b = x.toNatClampNeg then vd_here K else K 3 b)
      rw [r2.1]
    · exact rl_T_set r9 (r9.1 _)
  · rw [if_neg hq]
    rw [if_neg hq] at e1
    rw [e1]
    exact h
theorem op_remove {K : KT} (h : vd_Rel K) (x : Int32) (K1 : KT) (e1 : K1 = if vd_there K x = false ∨ x.toNatClampNeg = K 40 0 then K else vd_st K 3 x.toNatClampNeg 0) :
    (if vd_there K x = false ∨ x.toNatClampNeg = K 40 0 then (-1 : Int32) else nI 0) = (if vd_thM K1 x = false ∨ x.toNatClampNeg = K1 48 0 then (-1 : Int32) else nI 0) ∧ vd_Rel (if vd_thM K1 x = false ∨ x.toNatClampNeg = K1 48 0 then K1 else vd_st K1 18 x.toNatClampNeg 0) := by
  have ht : vd_thM K1 x = vd_there K x := by
    rw [← rl_there h, e1]
    split
    · rfl
    · rfl
  have h8 : K1 48 0 = K 40 0 := by
    rw [e1]
    split
    · exact h.1.2.1
    · exact h.1.2.1
  rw [ht, h8]
  refine ⟨rfl, ?_⟩
  by_cases hq : vd_there K x = false ∨ x.toNatClampNeg = K 40 0
  · rw [if_pos hq]
    rw [if_pos hq] at e1
    rw [e1]
    exact h
  · rw [if_neg hq]
    rw [if_neg hq] at e1
    rw [e1]
    obtain ⟨r1, r2, r3, r4, r5, r6, r7, r8, r9, r10, r11, r12, r13⟩ := h
    refine ⟨r1, ⟨?_, r2.2⟩, r3, r4, r5, r6, r7, r8, ?_, r10, r11, r12, r13⟩
    · show (fun b => if b = x.toNatClampNeg then 0 else K 18 b) = (fun b => if b = x.toNatClampNeg then 0 else K 3 b)
      rw [r2.1]
    · exact rl_T_set r9 (Nat.zero_le _)
theorem op_turn {K : KT} (h : vd_Rel K) (hB : vd_Bd K) (x : Int32) : vd_tuR K x = vd_tuRM (vd_tuK K x) x ∧ vd_Rel (vd_tuKM (vd_tuK K x) x) := by
  have hc1 : vd_thM (vd_tuK K x) x = vd_there K x := by
    rw [← rl_there h]
    unfold vd_tuK
    split
    · rfl
    · split
      · rfl
      · rfl
  have hc2 : vd_tuK K x 49 0 = K 41 0 := by
    unfold vd_tuK
    split
    · exact h.1.2.2
    · split
      · exact h.1.2.2
      · exact h.1.2.2
  have hc3 : vd_tidyM (vd_tuK K x) = vd_tidy K := by
    rw [← rl_tidy h hB]
    unfold vd_tuK
    split
    · rfl
    · split
      · rfl
      · rfl
  have hc4 : vd_tuK K x 18 = K 3 := by
    rw [← h.2.1.1]
    unfold vd_tuK
    split
    · rfl
    · split
      · rfl
      · rfl
  unfold vd_tuRM vd_tuKM
  rw [hc1, hc2, hc3, hc4]
  refine ⟨rfl, ?_⟩
  by_cases h1 : vd_there K x = false ∨ K 41 0 ≠ 0
  · rw [if_pos h1]
    unfold vd_tuK
    rw [if_pos h1]
    exact h
  · rw [if_neg h1]
    by_cases h2 : vd_tidy K = false
    · rw [if_pos h2]
      unfold vd_tuK
      rw [if_neg h1, if_pos h2]
      exact h
    · rw [if_neg h2]
      have hb : vd_there K x = true := by
        cases hz : vd_there K x with
        | true => rfl
        | false => exact absurd (Or.inl hz) h1
      obtain ⟨b, g1, g2, rfl, g3⟩ := vd_there_t hb
      have e : vd_tuK K (nI b) = vd_mv (vd_st K 40 0 b) (K 3 b) := by
        unfold vd_tuK
        rw [if_neg h1, if_neg h2, nI_clamp (show b < 2 ^ 31 by omega)]
      rw [e, nI_clamp (show b < 2 ^ 31 by omega)]
      have hM : K 43 0 ≤ 30 := hB 43 0 (by decide)
      have ht : K 3 b ≤ K 43 0 := h.2.2.2.2.2.2.2.2.1.1 b
      refine rl_moved h (c := K 3 b) (by omega) ?_ ?_ ?_ ?_ ?_ ?_ ?_ ?_ ?_ ?_ ?_
      · intro a ha
        simp only [List.mem_cons, List.not_mem_nil, or_false] at ha
        rw [vd_shw_o (by omega), vd_st_o (by omega), vd_mv_o (by omega) (by omega) (by omega), vd_st_o (by omega)]
      · intro f hf
        rw [vd_shw_o (by decide), vd_st_o (by decide)]
        exact vd_mv_0 hf
      · intro f hf
        rw [vd_shw_o (by decide), vd_st_o (by decide)]
        exact vd_mv_1 hf
      · intro q hq
        rw [vd_shw_lo (Or.inl (by omega)) hq, vd_st_o (by decide), vd_mv_o (by decide) (by decide) (by decide), vd_st_o (by decide)]
      · intro f hf
        rw [vd_shw_w (Or.inl (by omega)) hf, vd_st_o (by decide), vd_mv_o (by decide) (by decide) (by decide), vd_st_o (by decide)]
      · intro f hf
        rw [vd_shw_x (Or.inl (by omega)) hf, vd_st_o (by decide), vd_mv_o (by decide) (by decide) (by decide), vd_st_o (by decide)]
      · rfl
      · exact h.1.2.2
      · rw [vd_shw_o (by decide), vd_shw_o (by decide), vd_st_o (by decide), vd_st_o (by decide), vd_mv_3, vd_mv_o (by decide) (by decide) (by decide), vd_st_o (by decide), h.2.1.1]
        funext q
        show K 3 q = if q = (vd_st K 40 0 b) 40 0 then K 3 b else (vd_st K 40 0 b) 3 q
        rw [show (vd_st K 40 0 b) 40 0 = b from rfl]
        split
        · rename_i hq
          rw [hq]
        · rfl
      · exact h.2.2.2.2.2.1
      · rw [vd_shw_o (a := 3) (by decide), vd_st_o (a := 3) (by decide), vd_mv_3]
        exact rl_T_set h.2.2.2.2.2.2.2.2.1 ht
theorem op_abort {K : KT} (h : vd_Rel K) (hB : vd_Bd K) (K1 : KT) (e1 : K1 = if K 41 0 = 0 then K else vd_mv (vd_st (vd_st K 41 0 0) 42 0 0) (vd_here K)) :
    (if K 41 0 = 0 then (-1 : Int32) else nI 0) = (if K1 49 0 = 0 then (-1 : Int32) else nI 0) ∧ vd_Rel (if K1 49 0 = 0 then K1 else vd_shw (vd_fl (vd_st K1 49 0 0) 19 0 16 (fun _ => 0)) (vd_hereM K1)) := by
  have h9 : K1 49 0 = K 41 0 := by
    rw [e1]
    split
    · exact h.1.2.2
    · exact h.1.2.2
  have eh : vd_hereM K1 = vd_here K := by
    rw [← rl_here h, e1]
    split
    · rfl
    · rfl
  rw [h9, eh]
  refine ⟨rfl, ?_⟩
  by_cases hq : K 41 0 = 0
  · rw [if_pos hq]
    rw [if_pos hq] at e1
    rw [e1]
    exact h
  · rw [if_neg hq]
    rw [if_neg hq] at e1
    rw [e1]
    have hM : K 43 0 ≤ 30 := hB 43 0 (by decide)
    have ht := rl_hereM h
    refine rl_moved h (c := vd_here K) (by omega) ?_ ?_ ?_ ?_ ?_ ?_ ?_ ?_ ?_ ?_ ?_
    · intro a ha
      simp only [List.mem_cons, List.not_mem_nil, or_false] at ha
      rw [vd_shw_o (by omega), vd_fl_o (by omega), vd_st_o (by omega), vd_mv_o (by omega) (by omega) (by omega), vd_st_o (by omega), vd_st_o (by omega)]
    · intro f hf
      rw [vd_shw_o (by decide), vd_fl_o (by decide), vd_st_o (by decide)]
      exact vd_mv_0 hf
    · intro f hf
      rw [vd_shw_o (by decide), vd_fl_o (by decide), vd_st_o (by decide)]
      exact vd_mv_1 hf
    · intro q hq
      rw [vd_shw_lo (Or.inl (by omega)) hq, vd_fl_o (by decide), vd_st_o (by decide), vd_mv_o (by decide) (by decide) (by decide), vd_st_o (by decide), vd_st_o (by decide)]
    · intro f hf
      rw [vd_shw_w (Or.inl (by omega)) hf, vd_fl_o (by decide), vd_st_o (by decide), vd_mv_o (by decide) (by decide) (by decide), vd_st_o (by decide), vd_st_o (by decide)]
    · intro f hf
      rw [vd_shw_x (Or.inl (by omega)) hf, vd_fl_o (by decide), vd_st_o (by decide), vd_mv_o (by decide) (by decide) (by decide), vd_st_o (by decide), vd_st_o (by decide)]
    · exact h.1.2.1
    · rfl
    · rw [vd_shw_o (by decide), vd_shw_o (by decide), vd_fl_o (by decide), vd_fl_o (by decide), vd_st_o (by decide), vd_st_o (by decide), vd_mv_3, vd_mv_o (by decide) (by decide) (by decide), vd_st_o (by decide), vd_st_o (by decide), h.2.1.1]
      funext q
      show K 3 q = if q = K 40 0 then vd_here K else K 3 q
      split
      · rename_i hq
        rw [hq]
        rfl
      · rfl
    · intro f hf
      show (Nat.testBit 0 f = true) ↔ (if 0 ≤ f ∧ f < 0 + 16 then 0 else _) ≠ 0
      rw [if_pos (by omega), Nat.zero_testBit]
      simp
    · rw [vd_shw_o (a := 3) (by decide), vd_fl_o (a := 3) (by decide), vd_st_o (a := 3) (by decide), vd_mv_3]
      refine ⟨fun b => ?_, Nat.zero_le _⟩
      exact (rl_T_set (i := K 40 0) h.2.2.2.2.2.2.2.2.1 ht).1 b
