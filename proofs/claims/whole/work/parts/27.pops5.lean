/-! PURE: merge and pick -/
theorem vd_mxl_f (K : KT) (x y z w : Nat) : ∀ i f, f < i → vd_mxl K x y z w i 14 (528 + f) = vd_xmv K x y z f
  | 0, f, h => absurd h (Nat.not_lt_zero f)
  | i + 1, f, h => by
    have e : vd_mxl K x y z w (i + 1) 14 (528 + f) = if 528 + f = 528 + i then vd_xmv K x y z i else vd_mxl K x y z w i 14 (528 + f) := by
      rw [vd_mxl_s]
      split
      · rw [vd_st_o (by decide), vd_st_s]
      · rw [vd_st_s]
    rw [e]
    by_cases hf : f = i
    · rw [if_pos (by omega), hf]
    · rw [if_neg (by omega)]
      exact vd_mxl_f K x y z w i f (by omega)
theorem vd_mxl_19 (K : KT) (x y z : Nat) : ∀ i, vd_mxl K x y z 0 i 19 = K 19
  | 0 => rfl
  | i + 1 => by
    rw [vd_mxl_s, if_neg (fun h => h rfl), vd_st_o (by decide)]
    exact vd_mxl_19 K x y z i
theorem vd_mxl_c (K : KT) (x y z : Nat) : ∀ i f, f < i → vd_mxl K x y z 1 i 19 f = (vd_xcl K x y z f).toNat
  | 0, f, h => absurd h (Nat.not_lt_zero f)
  | i + 1, f, h => by
    have e : vd_mxl K x y z 1 (i + 1) 19 f = if f = i then (vd_xcl K x y z i).toNat else vd_mxl K x y z 1 i 19 f := by
      rw [vd_mxl_s, if_pos (by decide), vd_st_s, vd_st_o (by decide)]
    rw [e]
    by_cases hf : f = i
    · rw [if_pos hf, hf]
    · rw [if_neg hf]
      exact vd_mxl_c K x y z i f (by omega)
theorem vd_xmv_of {K S : KT} (e : S 14 = K 14) (x y z f : Nat) : vd_xmv S x y z f = vd_xmv K x y z f := by
  unfold vd_xmv
  rw [e]
theorem vd_xmv_lo {K S : KT} {x y z f : Nat} (e : ∀ b, b < 528 → S 14 b = K 14 b) (hx : x ≤ 30) (hy : y ≤ 30) (hz : z ≤ 30) (hf : f < 16) : vd_xmv S x y z f = vd_xmv K x y z f := by
  unfold vd_xmv
  rw [e _ (by omega), e _ (by omega), e _ (by omega)]
theorem vd_xcl_lo {K S : KT} {x y z f : Nat} (e : ∀ b, b < 528 → S 14 b = K 14 b) (hx : x ≤ 30) (hy : y ≤ 30) (hz : z ≤ 30) (hf : f < 16) : vd_xcl S x y z f = vd_xcl K x y z f := by
  unfold vd_xcl
  rw [e _ (by omega), e _ (by omega), e _ (by omega)]
theorem rl_xmv {K : KT} (h : vd_Rel K) (hB : vd_Bd K) {o b f : Nat} (ho : o ≤ 30) (hb : b ≤ 30) (hf : f < 16) : vd_xmv K (vd_here K) o b f = vd_mixv K o b f := by
  have hh : vd_here K ≤ 30 := Nat.le_trans (rl_hereM h) (hB 43 0 (by decide))
  unfold vd_xmv vd_mixv
  rw [rl_cnt h.2.2.1 hh hf, rl_cnt h.2.2.1 ho hf, rl_cnt h.2.2.1 hb hf]
theorem rl_xcl {K : KT} (h : vd_Rel K) (hB : vd_Bd K) {o b f : Nat} (ho : o ≤ 30) (hb : b ≤ 30) (hf : f < 16) : vd_xcl K (vd_here K) o b f = vd_clash K o b f := by
  have hh : vd_here K ≤ 30 := Nat.le_trans (rl_hereM h) (hB 43 0 (by decide))
  unfold vd_xcl vd_clash
  rw [rl_cnt h.2.2.1 hh hf, rl_cnt h.2.2.1 ho hf, rl_cnt h.2.2.1 hb hf]
theorem vd_mix_2 {K : KT} {o b f : Nat} (hf : f < 16) : vd_mix K o b 2 f = vd_mixv K o b f := by
  unfold vd_mix
  rw [vd_fl_i]
  show (if 0 ≤ f ∧ f < 0 + 16 then vd_mixv K o b (f - 0) else _) = _
  rw [if_pos (by omega)]
  rfl
theorem vd_mix_o {K : KT} {o b a : Nat} (h : a ≠ 2) : vd_mix K o b a = K a := vd_fl_o h
theorem vd_cntB {K : KT} (h : vd_Rel K) (hB : vd_Bd K) {c f : Nat} (hc : c ≤ 30) (hf : f < 16) : vd_cnt K c f ≤ 9999 := by
  rw [← rl_cnt h.2.2.1 hc hf]
  exact hB 14 (16 * c + f) (by show 16 * c + f < 544; omega)
theorem vd_mixB {K : KT} (h : vd_Rel K) (hB : vd_Bd K) {o b : Nat} (ho : o ≤ 30) : vd_Bd (vd_mix K o b) := by
  have hh : vd_here K ≤ 30 := Nat.le_trans (rl_hereM h) (hB 43 0 (by decide))
  unfold vd_mix
  refine vd_Bd.sa hB (fun f hf => ?_)
  have hf : f < 16 := hf
  show (if 0 ≤ f ∧ f < 0 + 16 then vd_mixv K o b (f - 0) else _) ≤ 9999
  rw [if_pos (by omega)]
  show vd_mixv K o b f ≤ 9999
  unfold vd_mixv
  split
  · exact vd_cntB h hB ho hf
  · exact vd_cntB h hB hh hf
theorem vd_xn_0 {K S : KT} (h : vd_Rel K) (hB : vd_Bd K) {o b : Nat} (ho : o ≤ 30) (hb : b ≤ 30) (e : S 14 = K 14) : vd_xn S (vd_here K) o b = 0 ↔ vd_mask K o b = 0 := by
  have hh : vd_here K ≤ 30 := Nat.le_trans (rl_hereM h) (hB 43 0 (by decide))
  unfold vd_mask
  rw [vd_mk_0]
  unfold vd_xn
  rw [vd_cn_congr (P' := fun f => vd_clash K o b f) (fun f hf => by
    rw [vd_xcl_lo (fun b _ => by rw [e]) hh ho hb hf, rl_xcl h hB ho hb hf])]
/-- index and work are set, the rest stays -/
theorem rl_set {K K2 : KT} (h : vd_Rel K) (hs : ∀ a, a ∈ [43, 44, 45, 46, 47, 4, 5, 6, 7, 9, 10, 11, 12, 13, 15, 16, 17, 20] → K2 a = K a)
    (g0 : ∀ b, b < 496 → K2 14 b = K 14 b) (w0 : rl_W 496 (K2 14) (K2 0)) (w1 : rl_W 512 (K2 14) (K2 1)) (q1 : K2 48 0 = K2 40 0) (q2 : K2 49 0 = K2 41 0) (q3 : K2 18 = K2 3) (q4 : rl_C (K2 42 0) (K2 19)) (q5 : rl_T (K 43 0) (K2 41 0) (K2 3)) : vd_Rel K2 := by
  obtain ⟨r1, r2, r3, r4, r5, r6, r7, r8, r9, r10, r11, r12, r13⟩ := h
  unfold vd_Rel
  rw [hs 43 (by decide), hs 44 (by decide), hs 45 (by decide), hs 46 (by decide), hs 47 (by decide), hs 4 (by decide), hs 5 (by decide), hs 6 (by decide), hs 7 (by decide), hs 9 (by decide), hs 10 (by decide), hs 11 (by decide), hs 12 (by decide), hs 13 (by decide), hs 15 (by decide), hs 16 (by decide), hs 17 (by decide), hs 20 (by decide)]
  refine ⟨⟨r1.1, q1, q2⟩, ⟨q3, r2.2⟩, fun d f hd hf => ?_, w0, w1, q4, r7, r8, q5, r10, r11, r12, r13⟩
  rw [g0 _ (by omega)]
  exact r3 d f hd hf
/-- the mixtures alone have changed -/
theorem rl_mixed {K S K2 : KT} {o b : Nat} (h : vd_Rel K) (hS : ∀ a, a ≠ 2 → a ≠ 21 → a ≠ 22 → S a = K a) (x : Nat) (e2 : K2 = vd_mxl S x o b 0 16) : vd_Rel K2 := by
  have o1 : ∀ a, a ≠ 2 → a ≠ 14 → a ≠ 19 → a ≠ 21 → a ≠ 22 → K2 a = K a := fun a h2 h14 h19 h21 h22 => by rw [e2, vd_mxl_o _ _ _ _ _ h14 h19, hS a h2 h21 h22]
  have e19 : K2 19 = K 19 := by rw [e2, vd_mxl_19, hS 19 (by decide) (by decide) (by decide)]
  have e14 : ∀ b, b < 528 → K2 14 b = K 14 b := fun q hq => by rw [e2, vd_mxl_14 _ _ _ _ _ hq, hS 14 (by decide) (by decide) (by decide)]
  refine rl_set h (fun a ha => ?_) (fun q hq => e14 q (by omega)) (fun f hf => ?_) (fun f hf => ?_) ?_ ?_ ?_ ?_ ?_
  · simp only [List.mem_cons, List.not_mem_nil, or_false] at ha
    exact o1 a (by omega) (by omega) (by omega) (by omega) (by omega)
  · rw [e14 _ (by omega), o1 0 (by decide) (by decide) (by decide) (by decide) (by decide)]
    exact h.2.2.2.1 f hf
  · rw [e14 _ (by omega), o1 1 (by decide) (by decide) (by decide) (by decide) (by decide)]
    exact h.2.2.2.2.1 f hf
  · rw [o1 48 (by decide) (by decide) (by decide) (by decide) (by decide), o1 40 (by decide) (by decide) (by decide) (by decide) (by decide)]
    exact h.1.2.1
  · rw [o1 49 (by decide) (by decide) (by decide) (by decide) (by decide), o1 41 (by decide) (by decide) (by decide) (by decide) (by decide)]
    exact h.1.2.2
  · rw [o1 18 (by decide) (by decide) (by decide) (by decide) (by decide), o1 3 (by decide) (by decide) (by decide) (by decide) (by decide)]
    exact h.2.1.1
  · rw [o1 42 (by decide) (by decide) (by decide) (by decide) (by decide), e19]
    exact h.2.2.2.2.2.1
  · rw [o1 41 (by decide) (by decide) (by decide) (by decide) (by decide), o1 3 (by decide) (by decide) (by decide) (by decide) (by decide)]
    exact h.2.2.2.2.2.2.2.2.1
/-- both sides have made a commit of the mixture and moved to it -/
theorem rl_mixmade {K S K1 K2 G : KT} {o b p2 : Nat} (h : vd_Rel K) (hB : vd_Bd K) (hm : K 43 0 < 30) (ho : o ≤ 30) (hb : b ≤ 30) (hp : p2 ≤ K 43 0) (e1 : K1 = vd_mv (vd_mkK (vd_mix K o b) 2 (vd_here K) p2) (K 43 0 + 1)) (hS : ∀ a, a ≠ 21 → a ≠ 22 → S a = K1 a)
    (e2 : K2 = vd_mxl S (vd_here K) o b 0 16) (eG : G = vd_mkM K2 33 (vd_here K) p2) : vd_hereM G = K 43 0 + 1 ∧ vd_Rel (vd_shw G (K 43 0 + 1)) := by
  have hh : vd_here K ≤ K 43 0 := rl_hereM h
  have hX : vd_Rel (vd_mix K o b) := h
  have hXB := vd_mixB h hB (o := o) (b := b) ho
  have mk := rl_make (K := vd_mix K o b) (Or.inr rfl) hXB hm hh hp hX.2.2.2.2.2.2.2.2.2.1 hX.2.2.2.2.2.2.2.2.2.2.1 hX.2.2.2.2.2.2.2.2.2.2.2.1 (fun c g1 g2 g3 => (hX.2.2.2.2.2.2.1.2 c g1 g2).2 g3) (vd_mkK (vd_mix K o b) 2 (vd_here K) p2) rfl
  have hcn : ∀ f, f < 16 → vd_cnt (vd_mkK (vd_mix K o b) 2 (vd_here K) p2) (K 43 0 + 1) f = vd_mixv K o b f := fun f hf => by
    rw [mk.2.2.2.2.2.2.1 (K 43 0 + 1) f (by omega) hf]
    rw [show (vd_mix K o b) 43 0 = K 43 0 from rfl, if_pos rfl]
    exact vd_mix_2 hf
  have kc : ∀ j, j ∈ [0, 1, 3, 40, 41, 42] ∨ (14 ≤ j ∧ (j ≤ 22 ∨ 47 ≤ j)) → vd_mkK (vd_mix K o b) 2 (vd_here K) p2 j = K j := fun j hj => by
    simp only [List.mem_cons, List.not_mem_nil, or_false] at hj
    rw [vd_mkK_o (by omega) (by omega) (by omega) (by omega) (by omega) (by omega) (by omega) (by omega) (by omega) (by omega) (by omega) (by omega) (by omega) (by omega), vd_mix_o (by omega)]
  generalize hKc : vd_mkK (vd_mix K o b) 2 (vd_here K) p2 = Kc at *
  have k1o : ∀ j, 14 ≤ j → (j ≤ 22 ∨ 47 ≤ j) → K1 j = K j := fun j g1 g2 => by rw [e1, vd_mv_o (by omega) (by omega) (by omega), kc j (Or.inr ⟨g1, g2⟩)]
  have s14 : S 14 = K 14 := by rw [hS 14 (by decide) (by decide), k1o 14 (by decide) (by decide)]
  have k2o : ∀ j, j ≠ 14 → j ≠ 19 → j ≠ 21 → j ≠ 22 → K2 j = K1 j := fun j g1 g2 g3 g4 => by rw [e2, vd_mxl_o _ _ _ _ _ g1 g2, hS j g3 g4]
  have k14 : ∀ q, q < 528 → K2 14 q = K 14 q := fun q hq => by rw [e2, vd_mxl_14 _ _ _ _ _ hq, s14]
  have k33 : ∀ f, f < 16 → K2 14 (528 + f) = vd_mixv K o b f := fun f hf => by rw [e2, vd_mxl_f _ _ _ _ _ 16 f hf, vd_xmv_of s14, rl_xmv h hB ho hb hf]
  have k19 : K2 19 = K 19 := by rw [e2, vd_mxl_19, hS 19 (by decide) (by decide), k1o 19 (by decide) (by decide)]
  obtain ⟨g47, g15, g16, g17, g20, g14, g18, go⟩ := vd_mkM_spec G eG
  have n47 : K2 47 0 = K 43 0 := by rw [k2o 47 (by decide) (by decide) (by decide) (by decide), k1o 47 (by decide) (by decide)]; exact h.1.1
  have n48 : K2 48 0 = K 40 0 := by rw [k2o 48 (by decide) (by decide) (by decide) (by decide), k1o 48 (by decide) (by decide)]; exact h.1.2.1
  have n18 : K2 18 = K 3 := by rw [k2o 18 (by decide) (by decide) (by decide) (by decide), k1o 18 (by decide) (by decide)]; exact h.2.1.1
  rw [n47] at g47 g15 g16 g17 g14 g18
  rw [n18, n48] at g18
  rw [k2o 15 (by decide) (by decide) (by decide) (by decide), k1o 15 (by decide) (by decide)] at g15
  rw [k2o 16 (by decide) (by decide) (by decide) (by decide), k1o 16 (by decide) (by decide)] at g16
  rw [k2o 17 (by decide) (by decide) (by decide) (by decide), k1o 17 (by decide) (by decide)] at g17
  rw [k2o 20 (by decide) (by decide) (by decide) (by decide), k1o 20 (by decide) (by decide)] at g20
  have go' : ∀ j, j ∉ [14, 15, 16, 17, 18, 20, 47, 19, 21, 22] → G j = K1 j := fun j hn => by
    simp only [List.mem_cons, List.not_mem_nil, or_false, not_or] at hn
    rw [go j hn.1 hn.2.1 hn.2.2.1 hn.2.2.2.1 hn.2.2.2.2.1 hn.2.2.2.2.2.1 hn.2.2.2.2.2.2.1, k2o j hn.1 (by omega) (by omega) (by omega)]
  have gm : ∀ f, f < 16 → G 14 (16 * (K 43 0 + 1) + f) = vd_mixv K o b f := fun f hf => by
    rw [g14]
    show (if 16 * (K 43 0 + 1) ≤ 16 * (K 43 0 + 1) + f ∧ 16 * (K 43 0 + 1) + f < 16 * (K 43 0 + 1) + 16 then K2 14 (16 * 33 + (16 * (K 43 0 + 1) + f - 16 * (K 43 0 + 1))) else _) = _
    rw [if_pos (by omega), Nat.add_sub_cancel_left]
    exact k33 f hf
  have g48 : G 48 0 = K 40 0 := by rw [go 48 (by decide) (by decide) (by decide) (by decide) (by decide) (by decide) (by decide)]; exact n48
  have f3 : G 3 = fun q => if q = K 40 0 then K 43 0 + 1 else K 3 q := by
    rw [go' 3 (by decide), e1, vd_mv_3, kc 40 (Or.inl (by decide)), kc 3 (Or.inl (by decide))]
  have fo : ∀ j, j ≠ 14 → vd_shw G (K 43 0 + 1) j = G j := fun j hj => vd_shw_o hj
  have cl : ∀ j, j ∈ [40, 41, 42] → G j = K j := fun j hj => by
    simp only [List.mem_cons, List.not_mem_nil, or_false] at hj
    rw [go' j (by simp only [List.mem_cons, List.not_mem_nil, or_false, not_or]; omega), e1, vd_mv_o (by omega) (by omega) (by omega), kc j (Or.inl (by simp only [List.mem_cons, List.not_mem_nil, or_false]; omega))]
  refine ⟨?_, ?_⟩
  · unfold vd_hereM
    rw [g48, g18]
    exact if_pos rfl
  refine rl_made (src := 2) (a := vd_here K) (b := p2) hX hXB (Or.inr rfl) hm hh hp Kc hKc.symm ?_ ?_ ?_ ?_ ?_ ?_ ?_ ?_ ?_ ?_ ?_ ?_ ?_ ?_
  · intro j hj
    simp only [List.mem_cons, List.not_mem_nil, or_false] at hj
    rw [fo j (by omega), go' j (by simp only [List.mem_cons, List.not_mem_nil, or_false, not_or]; omega), e1, vd_mv_o (by omega) (by omega) (by omega)]
  · rw [fo 47 (by decide), g47]
    rfl
  · rw [fo 15 (by decide), g15]
    rfl
  · rw [fo 16 (by decide), g16]
    rfl
  · rw [fo 17 (by decide), g17]
    rfl
  · rw [fo 20 (by decide), g20]
    refine bls20_congr (fun i hi => ?_)
    rw [vd_mix_2 hi]
    exact k33 i hi
  · intro c f hc hf
    rw [vd_shw_lo (Or.inl (by omega)) (by omega)]
    by_cases e : c = K 43 0 + 1
    · rw [e, gm f hf]
      rw [show (vd_mix K o b) 43 0 = K 43 0 from rfl, if_pos rfl, vd_mix_2 hf]
    · rw [show (vd_mix K o b) 43 0 = K 43 0 from rfl, if_neg e, g14]
      show (if 16 * (K 43 0 + 1) ≤ 16 * c + f ∧ 16 * c + f < 16 * (K 43 0 + 1) + 16 then _ else K2 14 (16 * c + f)) = _
      rw [if_neg (by omega), k14 _ (by omega)]
      rfl
  · rw [fo 48 (by decide), fo 40 (by decide), g48, cl 40 (by decide)]
  · rw [fo 49 (by decide), fo 41 (by decide), cl 41 (by decide), go' 49 (by decide), k1o 49 (by decide) (by decide)]
    exact h.1.2.2
  · rw [fo 18 (by decide), fo 3 (by decide), f3, g18]
  · intro f hf
    rw [vd_shw_w (Or.inl (by omega)) hf, fo 0 (by decide), gm f hf, go' 0 (by decide), e1, vd_mv_0 hf, hcn f hf]
  · intro f hf
    rw [vd_shw_x (Or.inl (by omega)) hf, fo 1 (by decide), gm f hf, go' 1 (by decide), e1, vd_mv_1 hf, hcn f hf]
  · rw [fo 42 (by decide), fo 19 (by decide), cl 42 (by decide), go 19 (by decide) (by decide) (by decide) (by decide) (by decide) (by decide) (by decide), k19]
    exact h.2.2.2.2.2.1
  · rw [fo 41 (by decide), fo 3 (by decide), cl 41 (by decide), f3]
    refine rl_T_set ⟨fun q => ?_, ?_⟩ (Nat.le_refl _)
    · exact Nat.le_succ_of_le (h.2.2.2.2.2.2.2.2.1.1 q)
    · exact Nat.le_succ_of_le h.2.2.2.2.2.2.2.2.1.2
theorem md_congr {K K1 : KT} (m : ∀ j, 14 ≤ j → (j ≤ 22 ∨ 47 ≤ j) → K1 j = K j) : vd_hereM K1 = vd_hereM K ∧ (∀ x, vd_thM K1 x = vd_thM K x) ∧ (∀ x, vd_stoM K1 x = vd_stoM K x) ∧ vd_tidyM K1 = vd_tidyM K := by
  have e : vd_hereM K1 = vd_hereM K := by unfold vd_hereM; rw [m 18 (by decide) (by decide), m 48 (by decide) (by decide)]
  refine ⟨e, fun x => ?_, fun x => ?_, ?_⟩
  · unfold vd_thM
    rw [m 18 (by decide) (by decide)]
  · unfold vd_stoM
    rw [m 15 (by decide) (by decide)]
  · unfold vd_tidyM vd_same
    rw [e, m 14 (by decide) (by decide)]
theorem vd_maK_m {K : KT} {o j : Nat} (h1 : 14 ≤ j) (h2 : j ≤ 22 ∨ 47 ≤ j) : vd_maK K o j = K j := by
  unfold vd_maK
  split
  · split
    · exact vd_mix_o (by omega)
    · rw [vd_mv_o (by omega) (by omega) (by omega), vd_mkK_o (by omega) (by omega) (by omega) (by omega) (by omega) (by omega) (by omega) (by omega) (by omega) (by omega) (by omega) (by omega) (by omega) (by omega), vd_mix_o (by omega)]
  · rw [vd_st_o (by omega), vd_st_o (by omega), vd_fl_o (by omega), vd_fl_o (by omega), vd_mix_o (by omega)]
theorem vd_meK_m {K : KT} {x : Int32} {j : Nat} (h1 : 14 ≤ j) (h2 : j ≤ 22 ∨ 47 ≤ j) : vd_meK K x j = K j := by
  unfold vd_meK
  split
  · rfl
  · split
    · rfl
    · split
      · rfl
      · split
        · exact vd_mv_o (by omega) (by omega) (by omega)
        · exact vd_maK_m h1 h2
theorem vd_piK_m {K : KT} {x : Int32} {j : Nat} (h1 : 14 ≤ j) (h2 : j ≤ 22 ∨ 47 ≤ j) : vd_piK K x j = K j := by
  unfold vd_piK
  split
  · rfl
  · split
    · rfl
    · split
      · exact vd_mix_o (by omega)
      · split
        · exact vd_mix_o (by omega)
        · split
          · exact vd_mix_o (by omega)
          · rw [vd_mv_o (by omega) (by omega) (by omega), vd_mkK_o (by omega) (by omega) (by omega) (by omega) (by omega) (by omega) (by omega) (by omega) (by omega) (by omega) (by omega) (by omega) (by omega) (by omega), vd_mix_o (by omega)]
theorem hereM_of {S K : KT} (e1 : S 18 = K 18) (e2 : S 48 = K 48) : vd_hereM S = vd_hereM K := by
  unfold vd_hereM
  rw [e1, e2]
theorem op_mergeA {K : KT} (h : vd_Rel K) (hB : vd_Bd K) {c : Nat} (hc1 : 1 ≤ c) (hc : c ≤ K 43 0) (hh1 : 1 ≤ vd_here K) (K1 : KT) (R1 : Int32)
    (e1 : K1 = if (K 7 (vd_here K)).testBit c = true then K else if (K 7 c).testBit (vd_here K) = true then vd_mv K c else vd_maK K c)
    (f1 : R1 = if (K 7 (vd_here K)).testBit c = true then nI 0 else if (K 7 c).testBit (vd_here K) = true then nI c else vd_maR K c) : R1 = vd_meR2 K1 c ∧ vd_Rel (vd_meK2 K1 c) := by
  have hM : K 43 0 ≤ 30 := hB 43 0 (by decide)
  have hh : vd_here K ≤ K 43 0 := rl_hereM h
  have m : ∀ j, 14 ≤ j → (j ≤ 22 ∨ 47 ≤ j) → K1 j = K j := fun j h1 h2 => by
    rw [e1]
    split
    · rfl
    · split
      · exact vd_mv_o (by omega) (by omega) (by omega)
      · exact vd_maK_m h1 h2
  have a2 : vd_hereM K1 = vd_here K := by rw [(md_congr m).1, rl_here h]
  have hA := rl_An h
  have hb : vd_shr K1 (vd_hereM K1) c = vd_base K c := by
    rw [a2]
    exact vd_shr_top (an := K 7) (by rw [m 16 (by decide) (by decide), m 17 (by decide) (by decide)]; exact hA) hM hh hc
  obtain ⟨S, hS⟩ : ∃ S, S = vd_shK K1 (vd_hereM K1) c := ⟨_, rfl⟩
  have sh : ∀ a, a ≠ 21 → a ≠ 22 → S a = K1 a := fun a g1 g2 => by rw [hS]; exact vd_shK_o _ _ _ g1 g2
  have a3 : vd_hereM S = vd_here K := (hereM_of (sh 18 (by decide) (by decide)) (sh 48 (by decide) (by decide))).trans a2
  have t1 : vd_base K c = c ↔ (K 7 (vd_here K)).testBit c = true := vd_meet_r hA hM hh hc1 hc
  have t2 : vd_base K c = vd_here K ↔ (K 7 c).testBit (vd_here K) = true := vd_meet_l hA hM hh1 hh hc
  have hbl : vd_base K c ≤ 30 := vd_topP_le _ _
  by_cases c1 : (K 7 (vd_here K)).testBit c = true
  · rw [if_pos c1] at e1 f1
    obtain ⟨z1, z2⟩ := vd_me_a (K := K1) (c := c) (by rw [hb]; exact t1.mpr c1) hS
    rw [← z1, ← z2, f1]
    refine ⟨rfl, rl_marks h (fun a g1 g2 => ?_)⟩
    rw [sh a g1 g2, e1]
  · rw [if_neg c1] at e1 f1
    have n1 : ¬ vd_shr K1 (vd_hereM K1) c = c := by rw [hb]; exact fun z => c1 (t1.mp z)
    by_cases c2 : (K 7 c).testBit (vd_here K) = true
    · rw [if_pos c2] at e1 f1
      obtain ⟨z1, z2⟩ := vd_me_b (K := K1) (c := c) n1 hS (by rw [hb, a3]; exact t2.mpr c2) rfl
      rw [← z1, ← z2, f1]
      refine ⟨rfl, rl_marks (rl_mv h hB hc K1 e1) (fun a g1 g2 => ?_)⟩
      by_cases ha : a = 14
      · subst ha
        funext q
        rw [vd_shw_14 (Or.inl (by omega)), vd_shw_14 (Or.inl (by omega)), vd_st_o (by decide), vd_st_o (by decide), sh 14 (by decide) (by decide)]
      · rw [vd_shw_o ha, vd_shw_o ha]
        by_cases hb : a = 18
        · subst hb
          rw [vd_st_s, vd_st_s, sh 18 (by decide) (by decide), sh 48 (by decide) (by decide)]
        · rw [vd_st_o hb, vd_st_o hb, sh a g1 g2]
    · rw [if_neg c2] at e1 f1
      have n2 : ¬ vd_shr K1 (vd_hereM K1) c = vd_hereM S := by rw [hb, a3]; exact fun z => c2 (t2.mp z)
      have s14 : S 14 = K 14 := by rw [sh 14 (by decide) (by decide), m 14 (by decide) (by decide)]
      have xn := vd_xn_0 h hB (o := c) (b := vd_base K c) (by omega) hbl s14
      have m47 : vd_mxl S (vd_here K) c (vd_base K c) 0 16 47 0 = K 43 0 := by
        rw [vd_mxl_o _ _ _ _ _ (by decide) (by decide), sh 47 (by decide) (by decide), m 47 (by decide) (by decide)]
        exact h.1.1
      have hm2 : vd_hereM (vd_mxl S (vd_here K) c (vd_base K c) 0 16) = vd_here K := by
        exact (hereM_of (vd_mxl_o _ _ _ _ _ (by decide) (by decide) _) (vd_mxl_o _ _ _ _ _ (by decide) (by decide) _)).trans a3
      by_cases c3 : vd_mask K c (vd_base K c) = 0
      · by_cases c4 : K 43 0 = 30
        · obtain ⟨z1, z2⟩ := vd_me_c (K := K1) (c := c) n1 hS n2 (by rw [a3, hb]; exact xn.mpr c3) rfl (by rw [a3, hb, m47]; exact c4)
          rw [← z1, ← z2, f1]
          have ek : K1 = vd_mix K c (vd_base K c) := by
            rw [e1]
            unfold vd_maK
            rw [if_pos c3, if_pos (by omega)]
          refine ⟨?_, rl_mixed h (fun a g0 g1 g2 => ?_) _ rfl⟩
          · unfold vd_maR
            rw [if_pos c3, if_pos (by omega)]
          · rw [sh a g1 g2]
            conv => lhs; rw [ek]
            exact vd_mix_o g0
        · obtain ⟨z1, z2⟩ := vd_me_d (K := K1) (c := c) n1 hS n2 (by rw [a3, hb]; exact xn.mpr c3) rfl (by rw [a3, hb, m47]; exact c4) rfl rfl
          rw [← z1, ← z2, f1, a3, hb, hm2]
          have ek : K1 = vd_mv (vd_mkK (vd_mix K c (vd_base K c)) 2 (vd_here K) c) (K 43 0 + 1) := by
            rw [e1]
            unfold vd_maK
            rw [if_pos c3, if_neg (by omega)]
          obtain ⟨g1, g2⟩ := rl_mixmade h hB (by omega) (o := c) (b := vd_base K c) (p2 := c) (by omega) hbl hc ek sh rfl rfl
          rw [g1]
          refine ⟨?_, g2⟩
          unfold vd_maR
          rw [if_pos c3, if_neg (by omega)]
          have g3 : ∀ G : KT, vd_hereM (vd_shw G (K 43 0 + 1)) = vd_hereM G := fun G => rfl
          rw [g3, g1]
      · obtain ⟨z1, z2⟩ := vd_me_e (K := K1) (c := c) n1 hS n2 (by rw [a3, hb]; exact fun z => c3 (xn.mp z)) rfl rfl rfl rfl
        rw [← z1, ← z2, f1, a3, hb, hm2]
        refine ⟨?_, ?_⟩
        · unfold vd_maR
          rw [if_neg c3]
        have ek : K1 = vd_st (vd_st (vd_fl (vd_fl (vd_mix K c (vd_base K c)) 1 0 16 (fun b => vd_mix K c (vd_base K c) 2 (0 + b))) 0 0 16 (fun b => vd_mix K c (vd_base K c) 2 (0 + b))) 41 0 c) 42 0 (vd_mask K c (vd_base K c)) := by
          rw [e1]
          unfold vd_maK
          rw [if_neg c3]
        have k14 : ∀ q, q < 528 → vd_mxl S (vd_here K) c (vd_base K c) 0 16 14 q = K 14 q := fun q hq => by rw [vd_mxl_14 _ _ _ _ _ hq, s14]
        have ko : ∀ j, j ≠ 14 → j ≠ 19 → j ≠ 21 → j ≠ 22 → vd_mxl S (vd_here K) c (vd_base K c) 0 16 j = K1 j := fun j g1 g2 g3 g4 => by rw [vd_mxl_o _ _ _ _ _ g1 g2, sh j g3 g4]
        generalize vd_mxl S (vd_here K) c (vd_base K c) 0 16 = K2 at *
        have l14 : ∀ q, q < 528 → vd_mxl K2 (vd_here K) c (vd_base K c) 1 16 14 q = K 14 q := fun q hq => by rw [vd_mxl_14 _ _ _ _ _ hq, k14 q hq]
        have l33 : ∀ f, f < 16 → vd_mxl K2 (vd_here K) c (vd_base K c) 1 16 14 (528 + f) = vd_mixv K c (vd_base K c) f := fun f hf => by
          rw [vd_mxl_f _ _ _ _ _ 16 f hf, vd_xmv_lo k14 (by omega) (by omega) hbl hf, rl_xmv h hB (by omega) hbl hf]
        have l19 : ∀ f, f < 16 → vd_mxl K2 (vd_here K) c (vd_base K c) 1 16 19 f = (vd_clash K c (vd_base K c) f).toNat := fun f hf => by
          rw [vd_mxl_c _ _ _ _ 16 f hf, vd_xcl_lo k14 (by omega) (by omega) hbl hf, rl_xcl h hB (by omega) hbl hf]
        have lo : ∀ j, j ≠ 14 → j ≠ 19 → j ≠ 21 → j ≠ 22 → vd_mxl K2 (vd_here K) c (vd_base K c) 1 16 j = K1 j := fun j g1 g2 g3 g4 => by rw [vd_mxl_o _ _ _ _ _ g1 g2, ko j g1 g2 g3 g4]
        generalize vd_mxl K2 (vd_here K) c (vd_base K c) 1 16 = K3 at *
        have fo : ∀ j, j ≠ 14 → j ≠ 49 → vd_st (vd_shw K3 33) 49 0 c j = K3 j := fun j g1 g2 => by rw [vd_st_o g2, vd_shw_o g1]
        have f14 : vd_st (vd_shw K3 33) 49 0 c 14 = vd_shw K3 33 14 := vd_st_o (by decide)
        have k41 : ∀ j, j ≠ 42 → j ≠ 41 → j ≠ 0 → j ≠ 1 → j ≠ 2 → K1 j = K j := fun j g1 g2 g3 g4 g5 => by
          rw [ek, vd_st_o g1, vd_st_o g2, vd_fl_o g3, vd_fl_o g4, vd_mix_o g5]
        have w0 : ∀ f, f < 16 → K1 0 f = vd_mixv K c (vd_base K c) f := fun f hf => by
          rw [ek, vd_st_o (by decide), vd_st_o (by decide), vd_fl_i]
          show (if 0 ≤ f ∧ f < 0 + 16 then vd_mix K c (vd_base K c) 2 (0 + (f - 0)) else _) = _
          rw [if_pos (by omega), Nat.zero_add, Nat.sub_zero, vd_mix_2 hf]
        have w1 : ∀ f, f < 16 → K1 1 f = vd_mixv K c (vd_base K c) f := fun f hf => by
          rw [ek, vd_st_o (by decide), vd_st_o (by decide), vd_fl_o (by decide), vd_fl_i]
          show (if 0 ≤ f ∧ f < 0 + 16 then vd_mix K c (vd_base K c) 2 (0 + (f - 0)) else _) = _
          rw [if_pos (by omega), Nat.zero_add, Nat.sub_zero, vd_mix_2 hf]
        have v41 : K1 41 0 = c := by rw [ek]; rfl
        have v42 : K1 42 0 = vd_mask K c (vd_base K c) := by rw [ek]; rfl
        refine rl_set h (fun a ha => ?_) (fun q hq => ?_) (fun f hf => ?_) (fun f hf => ?_) ?_ ?_ ?_ ?_ ?_
        · simp only [List.mem_cons, List.not_mem_nil, or_false] at ha
          rw [fo a (by omega) (by omega), lo a (by omega) (by omega) (by omega) (by omega), k41 a (by omega) (by omega) (by omega) (by omega) (by omega)]
        · rw [f14, vd_shw_lo (Or.inr rfl) hq, l14 q (by omega)]
        · rw [f14, vd_shw_w (Or.inr rfl) hf, fo 0 (by decide) (by decide), lo 0 (by decide) (by decide) (by decide) (by decide), w0 f hf]
          exact l33 f hf
        · rw [f14, vd_shw_x (Or.inr rfl) hf, fo 1 (by decide) (by decide), lo 1 (by decide) (by decide) (by decide) (by decide), w1 f hf]
          exact l33 f hf
        · rw [fo 48 (by decide) (by decide), fo 40 (by decide) (by decide), lo 48 (by decide) (by decide) (by decide) (by decide), lo 40 (by decide) (by decide) (by decide) (by decide), k41 48 (by decide) (by decide) (by decide) (by decide) (by decide), k41 40 (by decide) (by decide) (by decide) (by decide) (by decide)]
          exact h.1.2.1
        · rw [fo 41 (by decide) (by decide), lo 41 (by decide) (by decide) (by decide) (by decide), v41]
          rfl
        · rw [fo 18 (by decide) (by decide), fo 3 (by decide) (by decide), lo 18 (by decide) (by decide) (by decide) (by decide), lo 3 (by decide) (by decide) (by decide) (by decide), k41 18 (by decide) (by decide) (by decide) (by decide) (by decide), k41 3 (by decide) (by decide) (by decide) (by decide) (by decide)]
          exact h.2.1.1
        · intro f hf
          rw [fo 42 (by decide) (by decide), fo 19 (by decide) (by decide), lo 42 (by decide) (by decide) (by decide) (by decide), v42, l19 f hf]
          unfold vd_mask
          rw [vd_mk_bit, decide_eq_true hf, Bool.true_and]
          cases vd_clash K c (vd_base K c) f <;> decide
        · rw [fo 41 (by decide) (by decide), fo 3 (by decide) (by decide), lo 41 (by decide) (by decide) (by decide) (by decide), lo 3 (by decide) (by decide) (by decide) (by decide), v41, k41 3 (by decide) (by decide) (by decide) (by decide) (by decide)]
          exact ⟨h.2.2.2.2.2.2.2.2.1.1, hc⟩
theorem op_merge {K : KT} (h : vd_Rel K) (hB : vd_Bd K) (x : Int32) : vd_meR K x = vd_meRM (vd_meK K x) x ∧ vd_Rel (vd_meKM (vd_meK K x) x) := by
  have m : ∀ j, 14 ≤ j → (j ≤ 22 ∨ 47 ≤ j) → vd_meK K x j = K j := fun j h1 h2 => vd_meK_m h1 h2
  have b49 : vd_meK K x 49 0 = K 41 0 := by rw [m 49 (by decide) (by decide)]; exact h.1.2.2
  have b18 : vd_meK K x 18 = K 3 := by rw [m 18 (by decide) (by decide)]; exact h.2.1.1
  obtain ⟨c1, c2, -, c4⟩ := md_congr m
  unfold vd_meR vd_meRM vd_meKM
  rw [c1, c2 x, c4, b49, b18, rl_here h, rl_there h, rl_tidy h hB]
  by_cases h1 : vd_there K x = false ∨ vd_here K = 0 ∨ K 41 0 ≠ 0
  · rw [if_pos h1, if_pos h1, if_pos h1]
    refine ⟨rfl, ?_⟩
    unfold vd_meK
    rw [if_pos h1]
    exact h
  · rw [if_neg h1, if_neg h1, if_neg h1]
    by_cases h2 : vd_tidy K = false
    · rw [if_pos h2, if_pos h2, if_pos h2]
      refine ⟨rfl, ?_⟩
      unfold vd_meK
      rw [if_neg h1, if_pos h2]
      exact h
    · rw [if_neg h2, if_neg h2, if_neg h2]
      have hb : vd_there K x = true := by
        cases hz : vd_there K x with
        | true => rfl
        | false => exact absurd (Or.inl hz) h1
      have hh : vd_here K ≠ 0 := fun z => h1 (Or.inr (Or.inl z))
      obtain ⟨b, g1, g2, rfl, g3⟩ := vd_there_t hb
      rw [nI_clamp (show b < 2 ^ 31 by omega)]
      refine op_mergeA h hB (by omega) (h.2.2.2.2.2.2.2.2.1.1 b) (by omega) _ _ ?_ rfl
      unfold vd_meK
      rw [if_neg h1, if_neg h2, nI_clamp (show b < 2 ^ 31 by omega)]
theorem op_pickA {K : KT} (h : vd_Rel K) (hB : vd_Bd K) {c : Nat} (hc1 : 1 ≤ c) (hc : c ≤ K 43 0) (K1 : KT) (R1 : Int32)
    (e1 : K1 = if vd_mask K c (K 5 c) ≠ 0 then vd_mix K c (K 5 c) else if vd_ash (vd_mix K c (K 5 c)) 2 = true then vd_mix K c (K 5 c) else if 30 ≤ K 43 0 then vd_mix K c (K 5 c) else vd_mv (vd_mkK (vd_mix K c (K 5 c)) 2 (vd_here K) 0) (K 43 0 + 1))
    (f1 : R1 = if vd_mask K c (K 5 c) ≠ 0 then (-5 : Int32) else if vd_ash (vd_mix K c (K 5 c)) 2 = true then (-3 : Int32) else if 30 ≤ K 43 0 then (-2 : Int32) else nI (K 43 0 + 1)) : R1 = vd_piR2 K1 c ∧ vd_Rel (vd_piK2 K1 c) := by
  have hM : K 43 0 ≤ 30 := hB 43 0 (by decide)
  have hh : vd_here K ≤ K 43 0 := rl_hereM h
  have h5 : K 5 c ≤ 30 := hB 5 c (by show c < 31; omega)
  have m : ∀ j, 14 ≤ j → (j ≤ 22 ∨ 47 ≤ j) → K1 j = K j := fun j h1 h2 => by
    rw [e1]
    split
    · exact vd_mix_o (by omega)
    · split
      · exact vd_mix_o (by omega)
      · split
        · exact vd_mix_o (by omega)
        · rw [vd_mv_o (by omega) (by omega) (by omega), vd_mkK_o (by omega) (by omega) (by omega) (by omega) (by omega) (by omega) (by omega) (by omega) (by omega) (by omega) (by omega) (by omega) (by omega) (by omega), vd_mix_o (by omega)]
  have a2 : vd_hereM K1 = vd_here K := by rw [(md_congr m).1, rl_here h]
  have e16 : K1 16 c = K 5 c := by rw [m 16 (by decide) (by decide), h.2.1.2.1]
  have s14 : K1 14 = K 14 := m 14 (by decide) (by decide)
  have xn := vd_xn_0 h hB (o := c) (b := K 5 c) (by omega) h5 s14
  have m47 : vd_mxl K1 (vd_here K) c (K 5 c) 0 16 47 0 = K 43 0 := by
    rw [vd_mxl_o _ _ _ _ _ (by decide) (by decide), m 47 (by decide) (by decide)]
    exact h.1.1
  have hm2 : vd_hereM (vd_mxl K1 (vd_here K) c (K 5 c) 0 16) = vd_here K := by
    refine Eq.trans ?_ a2
    unfold vd_hereM
    rw [vd_mxl_o _ _ _ _ _ (a := 18) (by decide) (by decide), vd_mxl_o _ _ _ _ _ (a := 48) (by decide) (by decide)]
  have hsm : vd_same (vd_mxl K1 (vd_here K) c (K 5 c) 0 16) 33 (vd_here K) = vd_ash (vd_mix K c (K 5 c)) 2 := by
    unfold vd_same vd_ash
    have p : ∀ f, f < 16 → vd_mxl K1 (vd_here K) c (K 5 c) 0 16 14 (16 * 33 + f) = vd_mix K c (K 5 c) 2 f := fun f hf => by
      rw [show 16 * 33 + f = 528 + f by omega, vd_mxl_f _ _ _ _ _ 16 f hf, vd_xmv_of s14, rl_xmv h hB (by omega) h5 hf, vd_mix_2 hf]
    have q : ∀ f, f < 16 → vd_mxl K1 (vd_here K) c (K 5 c) 0 16 14 (16 * vd_here K + f) = vd_cnt (vd_mix K c (K 5 c)) (vd_here (vd_mix K c (K 5 c))) f := fun f hf => by
      rw [vd_mxl_14 _ _ _ _ _ (by omega), s14]
      exact rl_cnt h.2.2.1 (by omega) hf
    refine vd_eqn_c ⟨fun z f hf => ?_, fun z f hf => ?_⟩
    · rw [← p f hf, ← q f hf]
      exact z f hf
    · rw [p f hf, q f hf]
      exact z f hf
  have mixd : K1 = vd_mix K c (K 5 c) → vd_Rel (vd_mxl K1 (vd_here K) c (K 5 c) 0 16) := fun ek => rl_mixed h (fun a g0 g1 g2 => by rw [ek]; exact vd_mix_o g0) _ rfl
  by_cases c1 : vd_mask K c (K 5 c) = 0
  · have nc : ¬ vd_mask K c (K 5 c) ≠ 0 := fun z => z c1
    rw [if_neg nc] at e1 f1
    have n1 : vd_xn K1 (vd_hereM K1) c (K1 16 c) = 0 := by rw [a2, e16]; exact xn.mpr c1
    by_cases c2 : vd_ash (vd_mix K c (K 5 c)) 2 = true
    · rw [if_pos c2] at e1 f1
      obtain ⟨z1, z2⟩ := vd_pi_b (K := K1) (c := c) rfl n1 (by rw [a2, e16, hm2, hsm]; exact c2)
      rw [← z1, ← z2, f1, a2, e16]
      exact ⟨rfl, mixd e1⟩
    · rw [if_neg c2] at e1 f1
      have n2 : vd_same (vd_mxl K1 (vd_hereM K1) c (K1 16 c) 0 16) 33 (vd_hereM (vd_mxl K1 (vd_hereM K1) c (K1 16 c) 0 16)) = false := by
        rw [a2, e16, hm2, hsm]
        simpa using c2
      by_cases c3 : K 43 0 = 30
      · rw [if_pos (by omega)] at e1 f1
        obtain ⟨z1, z2⟩ := vd_pi_c (K := K1) (c := c) rfl n1 n2 (by rw [a2, e16, m47]; exact c3)
        rw [← z1, ← z2, f1, a2, e16]
        exact ⟨rfl, mixd e1⟩
      · rw [if_neg (by omega)] at e1 f1
        obtain ⟨z1, z2⟩ := vd_pi_d (K := K1) (c := c) rfl n1 n2 (by rw [a2, e16, m47]; exact c3) rfl rfl
        rw [← z1, ← z2, f1, a2, e16, hm2]
        obtain ⟨g1, g2⟩ := rl_mixmade h hB (by omega) (o := c) (b := K 5 c) (p2 := 0) (by omega) h5 (Nat.zero_le _) e1 (fun _ _ _ => rfl) rfl rfl
        rw [g1]
        refine ⟨?_, g2⟩
        have g3 : ∀ G : KT, vd_hereM (vd_shw G (K 43 0 + 1)) = vd_hereM G := fun G => rfl
        rw [g3, g1]
  · rw [if_pos c1] at e1 f1
    obtain ⟨z1, z2⟩ := vd_pi_a (K := K1) (c := c) rfl (by rw [a2, e16]; exact fun z => c1 (xn.mp z))
    rw [← z1, ← z2, f1, a2, e16]
    exact ⟨rfl, mixd e1⟩
theorem op_pick {K : KT} (h : vd_Rel K) (hB : vd_Bd K) (x : Int32) : vd_piR K x = vd_piRM (vd_piK K x) x ∧ vd_Rel (vd_piKM (vd_piK K x) x) := by
  have m : ∀ j, 14 ≤ j → (j ≤ 22 ∨ 47 ≤ j) → vd_piK K x j = K j := fun j h1 h2 => vd_piK_m h1 h2
  have b49 : vd_piK K x 49 0 = K 41 0 := by rw [m 49 (by decide) (by decide)]; exact h.1.2.2
  obtain ⟨c1, -, c3, c4⟩ := md_congr m
  unfold vd_piR vd_piRM vd_piKM
  rw [c1, c3 x, c4, b49, rl_here h, rl_sto h, rl_tidy h hB]
  by_cases h1 : vd_hol K x = false ∨ vd_here K = 0 ∨ K 41 0 ≠ 0
  · rw [if_pos h1, if_pos h1, if_pos h1]
    refine ⟨rfl, ?_⟩
    unfold vd_piK
    rw [if_pos h1]
    exact h
  · rw [if_neg h1, if_neg h1, if_neg h1]
    by_cases h2 : vd_tidy K = false
    · rw [if_pos h2, if_pos h2, if_pos h2]
      refine ⟨rfl, ?_⟩
      unfold vd_piK
      rw [if_neg h1, if_pos h2]
      exact h
    · rw [if_neg h2, if_neg h2, if_neg h2]
      have hb : vd_hol K x = true := by
        cases hz : vd_hol K x with
        | true => rfl
        | false => exact absurd (Or.inl hz) h1
      obtain ⟨c, g1, g2, rfl, g3⟩ := vd_hol_t hb
      rw [nI_clamp (show c < 2 ^ 31 by omega)]
      refine op_pickA h hB g1 (rl_hol_le h g1 g2 g3) _ _ ?_ rfl
      unfold vd_piK
      rw [if_neg h1, if_neg h2, nI_clamp (show c < 2 ^ 31 by omega)]
