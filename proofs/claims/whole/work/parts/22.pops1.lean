/-! PURE: the simple operations. Rel' K2 from Rel K, where K2 differs in few arrays: the rest by definition -/
theorem op_write {K : KT} (h : vd_Rel K) (x y : Int32) (K1 : KT) (e1 : K1 = if (vd_in 0 15 x && vd_in 0 9999 y) = true then vd_st K 0 x.toNatClampNeg y.toNatClampNeg else K) :
    vd_Rel (if (vd_in 0 15 x && vd_in 0 9999 y) = true then vd_st K1 14 (496 + x.toNatClampNeg) y.toNatClampNeg else K1) := by
  subst e1
  cases hb : (vd_in 0 15 x && vd_in 0 9999 y) with
  | false => exact h
  | true =>
    rw [if_pos rfl, if_pos rfl]
    rw [Bool.and_eq_true] at hb
    obtain ⟨f, hf1, hf2, rfl⟩ := vd_in_t hb.1
    rw [nI_clamp (show f < 2 ^ 31 by omega)]
    generalize y.toNatClampNeg = g
    obtain ⟨r1, r2, r3, r4, r5, r6, r7, r8, r9, r10, r11, r12, r13⟩ := h
    refine ⟨r1, r2, fun c q hc hq => ?_, fun q hq => ?_, fun q hq => ?_, r6, r7, r8, r9, r10, r11, r12, r13⟩
    · show (if 16 * c + q = 496 + f then g else K 14 (16 * c + q)) = _
      rw [if_neg (by omega)]
      exact r3 c q hc hq
    · show (if 496 + q = 496 + f then g else K 14 (496 + q)) = (if q = f then g else K 0 q)
      by_cases e : q = f
      · rw [if_pos (by omega), if_pos e]
      · rw [if_neg (by omega), if_neg e]
        exact r4 q hq
    · show (if 512 + q = 496 + f then g else K 14 (512 + q)) = K 1 q
      rw [if_neg (by omega)]
      exact r5 q hq
theorem vd_clr_bit {c f i : Nat} (hi : i < 16) : (vd_clr c f).testBit i = (c.testBit i && !decide (f = i)) := by
  unfold vd_clr
  rw [Nat.testBit_and, Nat.testBit_xor, Nat.testBit_two_pow]
  have h6 : (65535 : Nat).testBit i = decide (i < 16) := Nat.testBit_two_pow_sub_one 16 i
  rw [h6, decide_eq_true hi, Bool.true_xor]
/-- a blob is kept on both sides -/
theorem rl_B_bk {K : KT} {x : Nat} (h : rl_B (K 9) (K 20)) (hx : x ≤ 9999) : rl_B (vd_bl (vd_bk K x) x 9) (vd_bl (vd_bk K x) x 20) := by
  rw [vd_bl_o _ _ (by decide)]
  unfold vd_bl vd_bk
  by_cases h0 : x = 0
  · rw [if_pos h0, if_pos h0]
    exact h
  · rw [if_neg h0, if_neg h0]
    refine ⟨?_, fun z hz => ?_⟩
    · show (if 0 = x then 1 else K 20 0) = 0
      rw [if_neg (fun e => h0 e.symm)]
      exact h.1
    · show ((if z / 64 = x / 64 then (K 9 (x / 64) ||| 2 ^ (x % 64)) else K 9 (z / 64)).testBit (z % 64) = true) ↔ (z < 10000 ∧ (if z = x then 1 else K 20 z) ≠ 0)
      by_cases e : z = x
      · subst e
        rw [if_pos rfl, if_pos rfl, Nat.testBit_or, Nat.testBit_two_pow_self, Bool.or_true]
        exact ⟨fun _ => ⟨by omega, by decide⟩, fun _ => rfl⟩
      · rw [if_neg e]
        by_cases e2 : z / 64 = x / 64
        · rw [if_pos e2, Nat.testBit_or, Nat.testBit_two_pow, decide_eq_false (by omega), Bool.or_false, ← e2]
          exact h.2 z hz
        · rw [if_neg e2]
          exact h.2 z hz
theorem op_stage {K : KT} (h : vd_Rel K) (hB : vd_Bd K) (x : Int32) (K1 : KT) (e1 : K1 = if vd_in 0 15 x = true then vd_stK K x.toNatClampNeg else K) :
    vd_Rel (if vd_in 0 15 x = true then vd_st (vd_bl (vd_st K1 14 (512 + x.toNatClampNeg) (K1 14 (496 + x.toNatClampNeg))) (K1 14 (496 + x.toNatClampNeg))) 19 x.toNatClampNeg 0 else K1) := by
  subst e1
  cases hb : vd_in 0 15 x with
  | false => exact h
  | true =>
    rw [if_pos rfl, if_pos rfl]
    obtain ⟨f, hf1, hf2, rfl⟩ := vd_in_t hb
    rw [nI_clamp (show f < 2 ^ 31 by omega)]
    obtain ⟨r1, r2, r3, r4, r5, r6, r7, r8, r9, r10, r11, r12, r13⟩ := h
    have hw : K 0 f ≤ 9999 := hB 0 f (show f < 16 by omega)
    have ev : vd_stK K f 14 (496 + f) = K 0 f := by
      unfold vd_stK
      rw [vd_st_o (by decide), vd_bk_o _ _ (by decide), vd_st_o (by decide)]
      exact r4 f (by omega)
    rw [ev]
    have e14 : vd_stK K f 14 = K 14 := by
      unfold vd_stK
      rw [vd_st_o (by decide), vd_bk_o _ _ (by decide), vd_st_o (by decide)]
    have eo : ∀ a, a ≠ 1 → a ≠ 9 → a ≠ 42 → vd_stK K f a = K a := by
      intro a h1 h2 h3
      unfold vd_stK
      rw [vd_st_o h3, vd_bk_o _ _ h2, vd_st_o h1]
    have e1 : vd_stK K f 1 = fun b => if b = f then K 0 f else K 1 b := by
      unfold vd_stK
      rw [vd_st_o (by decide), vd_bk_o _ _ (by decide), vd_st_s]
    have e42 : vd_stK K f 42 0 = vd_clr (K 42 0) f := by
      unfold vd_stK
      rw [vd_st_s]
      exact if_pos rfl
    generalize hK1 : vd_stK K f = K1 at *
    have g : ∀ a, a ≠ 14 → a ≠ 19 → a ≠ 20 → vd_st (vd_bl (vd_st K1 14 (512 + f) (K 0 f)) (K 0 f)) 19 f 0 a = K1 a := by
      intro a h1 h2 h3
      rw [vd_st_o h2, vd_bl_o _ _ h3, vd_st_o h1]
    have g14 : vd_st (vd_bl (vd_st K1 14 (512 + f) (K 0 f)) (K 0 f)) 19 f 0 14 = fun b => if b = 512 + f then K 0 f else K 14 b := by
      rw [vd_st_o (by decide), vd_bl_o _ _ (by decide), vd_st_s, e14]
    have g19 : vd_st (vd_bl (vd_st K1 14 (512 + f) (K 0 f)) (K 0 f)) 19 f 0 19 = fun b => if b = f then 0 else K 19 b := by
      rw [vd_st_s, vd_bl_o _ _ (by decide), vd_st_o (by decide), eo 19 (by decide) (by decide) (by decide)]
    have g20 : rl_B (K1 9) (vd_st (vd_bl (vd_st K1 14 (512 + f) (K 0 f)) (K 0 f)) 19 f 0 20) := by
      have hb2 := rl_B_bk r13 hw
      rw [vd_bl_o _ _ (by decide)] at hb2
      have z9 : K1 9 = vd_bk K (K 0 f) 9 := by
        rw [← hK1]
        unfold vd_stK
        rw [vd_st_o (by decide)]
        unfold vd_bk
        split
        · exact vd_st_o (by decide)
        · rw [vd_st_s, vd_st_s, vd_st_o (by decide)]
      have z20 : vd_st (vd_bl (vd_st K1 14 (512 + f) (K 0 f)) (K 0 f)) 19 f 0 20 = vd_bl (vd_bk K (K 0 f)) (K 0 f) 20 := by
        rw [vd_st_o (by decide)]
        unfold vd_bl
        split
        · rw [vd_st_o (by decide), eo 20 (by decide) (by decide) (by decide), vd_bk_o _ _ (by decide)]
        · rw [vd_st_s, vd_st_s, vd_st_o (by decide), eo 20 (by decide) (by decide) (by decide), vd_bk_o _ _ (by decide)]
      rw [z9, z20]
      exact hb2
    unfold vd_Rel
    simp only [g14, g19, g 47 (by decide) (by decide) (by decide), g 43 (by decide) (by decide) (by decide), g 48 (by decide) (by decide) (by decide), g 40 (by decide) (by decide) (by decide), g 49 (by decide) (by decide) (by decide), g 41 (by decide) (by decide) (by decide), g 18 (by decide) (by decide) (by decide), g 3 (by decide) (by decide) (by decide), g 16 (by decide) (by decide) (by decide), g 5 (by decide) (by decide) (by decide), g 17 (by decide) (by decide) (by decide), g 6 (by decide) (by decide) (by decide), g 4 (by decide) (by decide) (by decide), g 10 (by decide) (by decide) (by decide), g 12 (by decide) (by decide) (by decide), g 0 (by decide) (by decide) (by decide), g 1 (by decide) (by decide) (by decide), g 42 (by decide) (by decide) (by decide), g 44 (by decide) (by decide) (by decide), g 15 (by decide) (by decide) (by decide), g 7 (by decide) (by decide) (by decide), g 45 (by decide) (by decide) (by decide), g 46 (by decide) (by decide) (by decide), g 11 (by decide) (by decide) (by decide), g 13 (by decide) (by decide) (by decide), g 9 (by decide) (by decide) (by decide)]
    rw [e1, e42, eo 47 (by decide) (by decide) (by decide), eo 43 (by decide) (by decide) (by decide), eo 48 (by decide) (by decide) (by decide), eo 40 (by decide) (by decide) (by decide), eo 49 (by decide) (by decide) (by decide), eo 41 (by decide) (by decide) (by decide), eo 18 (by decide) (by decide) (by decide), eo 3 (by decide) (by decide) (by decide), eo 16 (by decide) (by decide) (by decide), eo 5 (by decide) (by decide) (by decide), eo 17 (by decide) (by decide) (by decide), eo 6 (by decide) (by decide) (by decide), eo 4 (by decide) (by decide) (by decide), eo 10 (by decide) (by decide) (by decide), eo 12 (by decide) (by decide) (by decide), eo 0 (by decide) (by decide) (by decide), eo 44 (by decide) (by decide) (by decide), eo 15 (by decide) (by decide) (by decide), eo 7 (by decide) (by decide) (by decide), eo 45 (by decide) (by decide) (by decide), eo 46 (by decide) (by decide) (by decide), eo 11 (by decide) (by decide) (by decide), eo 13 (by decide) (by decide) (by decide)]
    refine ⟨r1, r2, fun c q hc hq => ?_, fun q hq => ?_, fun q hq => ?_, fun q hq => ?_, r7, r8, r9, r10, r11, r12, g20⟩
    · show (if 16 * c + q = 512 + f then _ else _) = _
      rw [if_neg (by omega)]
      exact r3 c q hc hq
    · show (if 496 + q = 512 + f then _ else _) = _
      rw [if_neg (by omega)]
      exact r4 q hq
    · show (if 512 + q = 512 + f then _ else _) = (if q = f then _ else _)
      by_cases e : q = f
      · rw [if_pos (by omega), if_pos e]
      · rw [if_neg (by omega), if_neg e]
        exact r5 q hq
    · rw [vd_clr_bit hq]
      show _ ↔ (if q = f then 0 else K 19 q) ≠ 0
      by_cases e : q = f
      · rw [if_pos e, decide_eq_true e.symm]
        simp
      · rw [if_neg e, decide_eq_false (fun z => e z.symm)]
        simpa using r6 q hq
