/-! PURE: what is only read -/
theorem op_content {K : KT} (h : vd_Rel K) (w x : Int32) : (if (vd_in 0 1 w && vd_in 0 15 x) = true then nI (K w.toNatClampNeg x.toNatClampNeg) else (-1 : Int32)) = (if (vd_in 0 1 w && vd_in 0 15 x) = true then nI (K 14 (16 * (31 + w.toNatClampNeg) + x.toNatClampNeg)) else (-1 : Int32)) := by
  cases hb : (vd_in 0 1 w && vd_in 0 15 x) with
  | false => rw [if_neg (by decide), if_neg (by decide)]
  | true =>
    rw [if_pos rfl, if_pos rfl]
    rw [Bool.and_eq_true] at hb
    obtain ⟨g, hg1, hg2, rfl⟩ := vd_in_t hb.1
    obtain ⟨f, hf1, hf2, rfl⟩ := vd_in_t hb.2
    rw [nI_clamp (show f < 2 ^ 31 by omega), nI_clamp (show g < 2 ^ 31 by omega)]
    rcases (show g = 0 ∨ g = 1 by omega) with rfl | rfl
    · rw [show 16 * (31 + 0) + f = 496 + f by omega, h.2.2.2.1 f (by omega)]
    · rw [show 16 * (31 + 1) + f = 512 + f by omega, h.2.2.2.2.1 f (by omega)]
theorem op_at {K : KT} (h : vd_Rel K) (x y : Int32) : (if (vd_hol K x && vd_in 0 15 y) = true then nI (vd_cnt K x.toNatClampNeg y.toNatClampNeg) else (-1 : Int32)) = (if (vd_stoM K x && vd_in 0 15 y) = true then nI (K 14 (16 * x.toNatClampNeg + y.toNatClampNeg)) else (-1 : Int32)) := by
  rw [rl_sto h]
  cases hb : (vd_hol K x && vd_in 0 15 y) with
  | false => rw [if_neg (by decide), if_neg (by decide)]
  | true =>
    rw [if_pos rfl, if_pos rfl]
    rw [Bool.and_eq_true] at hb
    obtain ⟨g, hg1, hg2, rfl, -⟩ := vd_hol_t hb.1
    obtain ⟨f, hf1, hf2, rfl⟩ := vd_in_t hb.2
    rw [nI_clamp (show f < 2 ^ 31 by omega), nI_clamp (show g < 2 ^ 31 by omega), rl_cnt h.2.2.1 hg2 (by omega)]
theorem op_parent {K : KT} (h : vd_Rel K) (x y : Int32) : (if (vd_hol K x && vd_in 0 1 y) = true then nI (if y.toNatClampNeg = 0 then K 5 x.toNatClampNeg else K 6 x.toNatClampNeg) else (-1 : Int32)) = (if (vd_stoM K x && vd_in 0 1 y) = true then nI (if y.toNatClampNeg = 0 then K 16 x.toNatClampNeg else K 17 x.toNatClampNeg) else (-1 : Int32)) := by
  rw [rl_sto h, h.2.1.2.1, h.2.1.2.2]
theorem op_branchAt {K : KT} (h : vd_Rel K) (x : Int32) : (if vd_in 0 5 x = true then nI (K 3 x.toNatClampNeg) else (-1 : Int32)) = (if vd_in 0 5 x = true then nI (K 18 x.toNatClampNeg) else (-1 : Int32)) := by
  rw [h.2.1.1]
theorem rl_An {K : KT} (h : vd_Rel K) : vd_An (K 43 0) (K 7) (K 16) (K 17) := by
  rw [h.2.1.2.1, h.2.1.2.2]
  exact h.2.2.2.2.2.2.2.1
theorem rl_hol_le {K : KT} (h : vd_Rel K) {c : Nat} (h1 : 1 ≤ c) (h2 : c ≤ 30) (hb : (K 44 0).testBit c = true) : c ≤ K 43 0 := ((h.2.2.2.2.2.2.1).2 c h1 h2).2 hb
theorem op_common {K : KT} (h : vd_Rel K) (hB : vd_Bd K) (x y : Int32) : (if (vd_hol K x && vd_hol K y) = true then nI (vd_top (K 7 x.toNatClampNeg &&& K 7 y.toNatClampNeg) 30) else (-1 : Int32)) = (if (vd_stoM K x && vd_stoM K y) = true then nI (vd_shr K x.toNatClampNeg y.toNatClampNeg) else (-1 : Int32)) := by
  rw [rl_sto h, rl_sto h]
  cases hb : (vd_hol K x && vd_hol K y) with
  | false => rw [if_neg (by decide), if_neg (by decide)]
  | true =>
    rw [if_pos rfl, if_pos rfl]
    rw [Bool.and_eq_true] at hb
    obtain ⟨g, hg1, hg2, rfl, hg3⟩ := vd_hol_t hb.1
    obtain ⟨f, hf1, hf2, rfl, hf3⟩ := vd_hol_t hb.2
    rw [nI_clamp (show f < 2 ^ 31 by omega), nI_clamp (show g < 2 ^ 31 by omega), vd_shr_top (rl_An h) (hB 43 0 (by decide)) (rl_hol_le h hg1 hg2 hg3) (rl_hol_le h hf1 hf2 hf3)]
/-- marks are no part of the relation -/
theorem rl_marks {K K' : KT} (h : vd_Rel K) (e : ∀ a, a ≠ 21 → a ≠ 22 → K' a = K a) : vd_Rel K' := by
  have g : ∀ a, a < 21 ∨ 22 < a → K' a = K a := fun a ha => e a (by omega) (by omega)
  unfold vd_Rel
  rw [g 47 (by omega), g 43 (by omega), g 48 (by omega), g 40 (by omega), g 49 (by omega), g 41 (by omega), g 18 (by omega), g 3 (by omega), g 16 (by omega), g 5 (by omega), g 17 (by omega), g 6 (by omega), g 14 (by omega), g 4 (by omega), g 10 (by omega), g 12 (by omega), g 0 (by omega), g 1 (by omega), g 42 (by omega), g 19 (by omega), g 44 (by omega), g 15 (by omega), g 7 (by omega), g 45 (by omega), g 46 (by omega), g 11 (by omega), g 13 (by omega), g 9 (by omega), g 20 (by omega)]
  exact h
theorem op_commonK {K : KT} (h : vd_Rel K) (x y : Int32) : vd_Rel (if (vd_stoM K x && vd_stoM K y) = true then vd_shK K x.toNatClampNeg y.toNatClampNeg else K) := by
  split
  · exact rl_marks h (fun a h1 h2 => vd_shK_o _ _ _ h1 h2)
  · exact h
theorem op_differ {K : KT} (h : vd_Rel K) (x y : Int32) : (if (vd_hol K x && vd_hol K y) = true then nI (vd_dif K x.toNatClampNeg y.toNatClampNeg) else (-1 : Int32)) = (if (vd_stoM K x && vd_stoM K y) = true then nI (vd_cn (fun q => K 14 (16 * x.toNatClampNeg + q) != K 14 (16 * y.toNatClampNeg + q)) 16) else (-1 : Int32)) := by
  rw [rl_sto h, rl_sto h]
  cases hb : (vd_hol K x && vd_hol K y) with
  | false => rw [if_neg (by decide), if_neg (by decide)]
  | true =>
    rw [if_pos rfl, if_pos rfl]
    rw [Bool.and_eq_true] at hb
    obtain ⟨g, hg1, hg2, rfl, hg3⟩ := vd_hol_t hb.1
    obtain ⟨f, hf1, hf2, rfl, hf3⟩ := vd_hol_t hb.2
    rw [nI_clamp (show f < 2 ^ 31 by omega), nI_clamp (show g < 2 ^ 31 by omega)]
    unfold vd_dif
    rw [vd_cn_congr (P' := fun q => K 14 (16 * g + q) != K 14 (16 * f + q)) (fun q hq => ?_)]
    rw [rl_cnt h.2.2.1 hg2 hq, rl_cnt h.2.2.1 hf2 hq]
theorem op_clashing {K : KT} (h : vd_Rel K) (x : Int32) : (vd_in 0 15 x && (K 42 0).testBit x.toNatClampNeg) = (vd_in 0 15 x && (K 19 x.toNatClampNeg != 0)) := by
  cases hb : vd_in 0 15 x with
  | false => rfl
  | true =>
    obtain ⟨f, hf1, hf2, rfl⟩ := vd_in_t hb
    rw [nI_clamp (show f < 2 ^ 31 by omega), Bool.true_and, Bool.true_and]
    have e := h.2.2.2.2.2.1 f (by omega)
    cases hc : (K 42 0).testBit f with
    | false =>
      rw [hc] at e
      have : K 19 f = 0 := Classical.byContradiction fun z => absurd (e.mpr z) (by decide)
      simp [this]
    | true =>
      have := e.mp hc
      simp [this]
/-! the counts -/
theorem rl_b0 {K : KT} (h : vd_Rel K) : vd_bsz K 157 = vd_c0 K := by
  have hb := h.2.2.2.2.2.2.2.2.2.2.2.2
  rw [vd_bsz_cn]
  show vd_cn _ (1 + (9999 + 48)) = _
  rw [vd_cn_add, vd_cn_add]
  have z1 : vd_cn (fun x => (K 9 (x / 64)).testBit (x % 64)) 1 = 0 := vd_cn_zero (fun i hi => by
    cases hz : (K 9 (i / 64)).testBit (i % 64) with
    | false => rfl
    | true =>
      have := (hb.2 i (by omega)).mp hz
      rw [show i = 0 by omega] at this
      exact absurd hb.1 this.2)
  have z3 : vd_cn (fun i => (fun i => (fun x => (K 9 (x / 64)).testBit (x % 64)) (1 + i)) (9999 + i)) 48 = 0 := vd_cn_zero (fun i hi => by
    show (K 9 ((1 + (9999 + i)) / 64)).testBit ((1 + (9999 + i)) % 64) = false
    cases hz : (K 9 ((1 + (9999 + i)) / 64)).testBit ((1 + (9999 + i)) % 64) with
    | false => rfl
    | true =>
      have := (hb.2 (1 + (9999 + i)) (by omega)).mp hz
      omega)
  rw [z1, z3, Nat.zero_add, Nat.add_zero]
  unfold vd_c0
  refine vd_cn_congr (fun i hi => ?_)
  show (K 9 ((1 + i) / 64)).testBit ((1 + i) % 64) = (K 20 (i + 1) != 0)
  have e := hb.2 (1 + i) (by omega)
  rw [Nat.add_comm i 1]
  cases hz : (K 9 ((1 + i) / 64)).testBit ((1 + i) % 64) with
  | false =>
    rw [hz] at e
    have : K 20 (1 + i) = 0 := Classical.byContradiction fun z => absurd (e.mpr ⟨by omega, z⟩) (by decide)
    simp [this]
  | true =>
    have := (e.mp hz).2
    simp [this]
theorem rl_b3 {K : KT} (h : vd_Rel K) (hB : vd_Bd K) : vd_pc 32 (K 44 0) = vd_c3 K := by
  have hs := h.2.2.2.2.2.2.1
  unfold vd_pc
  show vd_cn _ (1 + (30 + 1)) = _
  rw [vd_cn_add, vd_cn_add]
  have hlt : K 44 0 < 2 ^ 31 := Nat.lt_succ_of_le (hB 44 0 (by decide))
  have z1 : vd_cn (fun i => (K 44 0).testBit i) 1 = 0 := vd_cn_zero (fun i hi => by rw [show i = 0 by omega]; exact hs.1)
  have z3 : vd_cn (fun i => (fun i => (fun i => (K 44 0).testBit i) (1 + i)) (30 + i)) 1 = 0 := vd_cn_zero (fun i hi => by
    show (K 44 0).testBit (1 + (30 + i)) = false
    rw [show 1 + (30 + i) = 31 by omega]
    exact Nat.testBit_lt_two_pow hlt)
  rw [z1, z3, Nat.zero_add, Nat.add_zero]
  unfold vd_c3
  refine vd_cn_congr (fun i hi => ?_)
  show (K 44 0).testBit (1 + i) = (K 15 (i + 1) != 0)
  have e := (hs.2 (1 + i) (by omega) (by omega)).1
  rw [Nat.add_comm i 1]
  cases hz : (K 44 0).testBit (1 + i) with
  | false =>
    rw [hz] at e
    have : K 15 (1 + i) = 0 := Classical.byContradiction fun z => absurd (e.mpr z) (by decide)
    simp [this]
  | true =>
    have := e.mp hz
    simp [this]
theorem rl_b8 {K : KT} (h : vd_Rel K) (hB : vd_Bd K) : vd_pc 32 (K 42 0) = vd_clM K := by
  have hs := h.2.2.2.2.2.1
  unfold vd_pc
  show vd_cn _ (16 + 16) = _
  rw [vd_cn_add]
  have hlt : K 42 0 < 2 ^ 16 := Nat.lt_succ_of_le (hB 42 0 (by decide))
  have z3 : vd_cn (fun i => (fun i => (K 42 0).testBit i) (16 + i)) 16 = 0 := vd_cn_zero (fun i hi => by
    show (K 42 0).testBit (16 + i) = false
    exact Nat.testBit_lt_two_pow (Nat.lt_of_lt_of_le hlt (Nat.pow_le_pow_right (by decide) (by omega))))
  rw [z3, Nat.add_zero]
  unfold vd_clM
  refine vd_cn_congr (fun i hi => ?_)
  have e := hs i hi
  show (K 42 0).testBit i = (K 19 i != 0)
  cases hz : (K 42 0).testBit i with
  | false =>
    rw [hz] at e
    have : K 19 i = 0 := Classical.byContradiction fun z => absurd (e.mpr z) (by decide)
    simp [this]
  | true =>
    have := e.mp hz
    simp [this]
theorem rl_b9 {K : KT} (h : vd_Rel K) : vd_un K = vd_chg K := by
  unfold vd_un vd_chg
  refine vd_cn_congr (fun f hf => ?_)
  rw [h.2.2.2.1 f hf, h.2.2.2.2.1 f hf]
/-! folders and roots: rows are distinct, so their numbers say whether they are alike -/
theorem rl_row0 {M L N : Nat} {a4 a10 a12 : Nat → Nat} (h : rl_R M L N a4 a10 a12) {r : Nat} (hr : r ≤ L) : (∀ q, q < 4 → a10 (r * 4 + q) = 0) ↔ r = 0 := by
  obtain ⟨-, -, h3, -, -, -, -, h8, -, -⟩ := h
  constructor
  · intro z
    by_cases e : r = 0
    · exact e
    · obtain ⟨q, hq, hn⟩ := h8 r (by omega) hr
      exact absurd (z q hq) hn
  · intro e q hq
    rw [e, Nat.zero_mul, Nat.zero_add]
    exact h3 q hq
theorem rl_fold {M L N : Nat} {a4 a10 a12 : Nat → Nat} (h : rl_R M L N a4 a10 a12) {r t : Nat} (hr : r ≤ L) (ht : t ≤ L) (z : ∀ q, q < 4 → a10 (r * 4 + q) = a10 (t * 4 + q)) : r = t := by
  by_cases e : r = 0
  · have := (rl_row0 h ht).mp (fun q hq => by rw [← z q hq]; exact (rl_row0 h hr).mpr e q hq)
    omega
  · by_cases e2 : t = 0
    · have := (rl_row0 h hr).mp (fun q hq => by rw [z q hq]; exact (rl_row0 h ht).mpr e2 q hq)
      omega
    · exact h.2.2.2.2.2.2.2.2.1 r t (by omega) hr (by omega) ht z
/-- the number of a commit's folder -/
def rl_fn (a4 a12 : Nat → Nat) (c p : Nat) : Nat := a12 (a4 c * 4 + p)
theorem rl_fn_le {M L N : Nat} {a4 a10 a12 : Nat → Nat} (h : rl_R M L N a4 a10 a12) {c p : Nat} (hp : p < 4) : rl_fn a4 a12 c p ≤ L := by
  obtain ⟨-, -, -, h4, h5, h6, h7, -⟩ := h
  unfold rl_fn
  by_cases hc : c = 0 ∨ M < c
  · rw [h6 c hc, Nat.zero_mul, Nat.zero_add, h4 p hp]
    exact Nat.zero_le _
  · exact h7 _ _ (h5 c (by omega) (by omega)).2 hp
theorem rl_con {a14 a4 a10 a12 : Nat → Nat} (h : rl_A a14 a4 a10 a12) {c p q : Nat} (hc : c ≤ 30) (hp : p < 4) (hq : q < 4) : a14 (16 * c + (4 * p + q)) = a10 (rl_fn a4 a12 c p * 4 + q) := by
  rw [h c (4 * p + q) hc (by omega)]
  unfold rl_fn
  rw [show (4 * p + q) / 4 = p by omega, show (4 * p + q) % 4 = q by omega]
/-- two folders of commits are alike just where their numbers are -/
theorem rl_alike {M L N : Nat} {a14 a4 a10 a12 : Nat → Nat} (hA : rl_A a14 a4 a10 a12) (h : rl_R M L N a4 a10 a12) {c d p s : Nat} (hc : c ≤ 30) (hd : d ≤ 30) (hp : p < 4) (hs : s < 4) : (∀ q, q < 4 → a14 (16 * c + (4 * p + q)) = a14 (16 * d + (4 * s + q))) ↔ rl_fn a4 a12 c p = rl_fn a4 a12 d s := by
  constructor
  · intro z
    exact rl_fold h (rl_fn_le h hp) (rl_fn_le h hs) (fun q hq => by rw [← rl_con hA hc hp hq, ← rl_con hA hd hs hq]; exact z q hq)
  · intro e q hq
    rw [rl_con hA hc hp hq, rl_con hA hd hs hq, e]
theorem rl_root {M L N : Nat} {a14 a4 a10 a12 : Nat → Nat} (hA : rl_A a14 a4 a10 a12) (h : rl_R M L N a4 a10 a12) (hM : M ≤ 30) {c d : Nat} (h1 : 1 ≤ c) (hc : c ≤ M) (h2 : 1 ≤ d) (hd : d ≤ M) : (∀ f, f < 16 → a14 (16 * c + f) = a14 (16 * d + f)) ↔ a4 c = a4 d := by
  constructor
  · intro z
    obtain ⟨g1, g2⟩ := h.2.2.2.2.1 c h1 hc
    obtain ⟨g3, g4⟩ := h.2.2.2.2.1 d h2 hd
    refine h.2.2.2.2.2.2.2.2.2 _ _ g1 g2 g3 g4 (fun p hp => ?_)
    exact (rl_alike hA h (by omega) (by omega) hp hp).mp (fun q hq => z (4 * p + q) (by omega))
  · intro e f hf
    rw [hA c f (by omega) hf, hA d f (by omega) hf, e]
theorem rl_b2 {K : KT} (h : vd_Rel K) (hB : vd_Bd K) : vd_rsz K 13 46 = vd_c2 K := by
  obtain ⟨r1, r2, r3, r4, r5, r6, r7, r8, r9, r10, r11, r12, r13⟩ := h
  have hM : K 43 0 ≤ 30 := hB 43 0 (by decide)
  have sto : ∀ c, 1 ≤ c → c ≤ 30 → K 15 c ≠ 0 → c ≤ K 43 0 := fun c h1 h2 h3 => (r7.2 c h1 h2).2 ((r7.2 c h1 h2).1.mpr h3)
  symm
  refine vd_fresh2 (act := fun t => K 15 (t + 1) != 0) (g := fun t => K 4 (t + 1)) (L := K 46 0) 30 (fun t ht ha => ?_) (fun t ht => ?_) (fun r hr => ?_)
  · have ha : K 15 (t + 1) ≠ 0 := by simpa using ha
    exact r10.2.2.2.2.1 (t + 1) (by omega) (sto _ (by omega) (by omega) ha)
  · show vd_frR K (t + 1) = true ↔ ((K 15 (t + 1) != 0) = true ∧ ∀ u, u < t → ¬ ((K 15 (u + 1) != 0) = true ∧ K 4 (u + 1) = K 4 (t + 1)))
    unfold vd_frR
    rw [decide_eq_true_eq]
    constructor
    · rintro ⟨z1, z2⟩
      refine ⟨vd_bne z1, fun u hu => ?_⟩
      rintro ⟨g1, g2⟩
      have g1 : K 15 (u + 1) ≠ 0 := by simpa using g1
      refine z2 (u + 1) (by omega) (by omega) ⟨g1, vd_eqn_t ?_⟩
      exact (rl_root r3 r10 hM (by omega) (sto _ (by omega) (by omega) z1) (by omega) (sto _ (by omega) (by omega) g1)).mpr g2.symm
    · rintro ⟨z1, z2⟩
      have z1 : K 15 (t + 1) ≠ 0 := by simpa using z1
      refine ⟨z1, fun b hb h1 => ?_⟩
      rintro ⟨g1, g2⟩
      have e : b - 1 + 1 = b := by omega
      refine z2 (b - 1) (by omega) ⟨?_, ?_⟩
      · rw [e]
        exact vd_bne g1
      · rw [e]
        exact ((rl_root r3 r10 hM (by omega) (sto _ (by omega) (by omega) z1) h1 (sto _ h1 (by omega) g1)).mp (vd_eqn_i.mp g2)).symm
  · show (K 13 (r + 1) != 0) = true ↔ ∃ t, t < 30 ∧ (K 15 (t + 1) != 0) = true ∧ K 4 (t + 1) = r + 1
    rw [bne_iff_ne, r12 (r + 1) (by omega) (by omega)]
    constructor
    · rintro ⟨c, g1, g2, g3, g4⟩
      have e : c - 1 + 1 = c := by omega
      refine ⟨c - 1, by omega, ?_, ?_⟩
      · rw [e]
        exact vd_bne ((r7.2 c g1 g2).1.mp g3)
      · rw [e]
        exact g4
    · rintro ⟨t, g1, g2, g3⟩
      have g2 : K 15 (t + 1) ≠ 0 := by simpa using g2
      exact ⟨t + 1, by omega, by omega, (r7.2 _ (by omega) (by omega)).1.mpr g2, g3⟩
theorem rl_or4 {a b c d : Nat} : a ||| b ||| c ||| d = 0 ↔ (a = 0 ∧ b = 0 ∧ c = 0 ∧ d = 0) := by
  rw [Nat.or_eq_zero_iff, Nat.or_eq_zero_iff, Nat.or_eq_zero_iff, and_assoc, and_assoc]
theorem rl_b1 {K : KT} (h : vd_Rel K) (hB : vd_Bd K) : vd_rsz K 11 45 = vd_c1 K := by
  obtain ⟨r1, r2, r3, r4, r5, r6, r7, r8, r9, r10, r11, r12, r13⟩ := h
  have hM : K 43 0 ≤ 30 := hB 43 0 (by decide)
  have hor : ∀ t, t < 120 → (vd_orM K (16 + 4 * t) = 0 ↔ rl_fn (K 4) (K 12) (1 + t / 4) (t % 4) = 0) := by
    intro t ht
    have hc : ∀ q, q < 4 → K 14 (16 + 4 * t + q) = K 10 (rl_fn (K 4) (K 12) (1 + t / 4) (t % 4) * 4 + q) := fun q hq => by
      rw [← rl_con r3 (by omega) (by omega) hq]
      congr 1
      omega
    rw [← rl_row0 r10 (rl_fn_le r10 (c := 1 + t / 4) (p := t % 4) (by omega))]
    unfold vd_orM
    rw [rl_or4]
    constructor
    · rintro ⟨z0, z1, z2, z3⟩ q hq
      rw [← hc q hq]
      rcases (show q = 0 ∨ q = 1 ∨ q = 2 ∨ q = 3 by omega) with rfl | rfl | rfl | rfl
      · exact z0
      · exact z1
      · exact z2
      · exact z3
    · intro z
      exact ⟨(hc 0 (by omega)).trans (z 0 (by omega)), (hc 1 (by omega)).trans (z 1 (by omega)), (hc 2 (by omega)).trans (z 2 (by omega)), (hc 3 (by omega)).trans (z 3 (by omega))⟩
  have hal : ∀ t u, t < 120 → u < 120 → (vd_alM K (16 + 4 * t) (16 + 4 * u) = true ↔ rl_fn (K 4) (K 12) (1 + t / 4) (t % 4) = rl_fn (K 4) (K 12) (1 + u / 4) (u % 4)) := by
    intro t u ht hu
    rw [← rl_alike r3 r10 (show 1 + t / 4 ≤ 30 by omega) (show 1 + u / 4 ≤ 30 by omega) (show t % 4 < 4 by omega) (show u % 4 < 4 by omega)]
    unfold vd_alM
    rw [vd_eqn_i]
    constructor
    · intro z q hq
      have := z q hq
      rw [show 16 * (1 + t / 4) + (4 * (t % 4) + q) = 16 + 4 * t + q by omega, show 16 * (1 + u / 4) + (4 * (u % 4) + q) = 16 + 4 * u + q by omega]
      exact this
    · intro z q hq
      have := z q hq
      rw [show 16 * (1 + t / 4) + (4 * (t % 4) + q) = 16 + 4 * t + q by omega, show 16 * (1 + u / 4) + (4 * (u % 4) + q) = 16 + 4 * u + q by omega] at this
      exact this
  have hdv : ∀ t, (16 + 4 * t) / 16 = 1 + t / 4 := fun t => by omega
  symm
  refine vd_fresh2 (act := fun t => decide (K 15 (1 + t / 4) ≠ 0 ∧ rl_fn (K 4) (K 12) (1 + t / 4) (t % 4) ≠ 0)) (g := fun t => rl_fn (K 4) (K 12) (1 + t / 4) (t % 4)) (L := K 45 0) 120 (fun t ht ha => ?_) (fun t ht => ?_) (fun r hr => ?_)
  · have ha := of_decide_eq_true ha
    exact ⟨Nat.pos_of_ne_zero ha.2, rl_fn_le r10 (by omega)⟩
  · unfold vd_frF
    rw [decide_eq_true_eq, decide_eq_true_eq, hdv]
    constructor
    · rintro ⟨z1, z2, z3⟩
      refine ⟨⟨z1, fun z => z2 ((hor t ht).mpr z)⟩, fun u hu => ?_⟩
      rintro ⟨g1, g2⟩
      have g1 := of_decide_eq_true g1
      exact z3 u hu ⟨by rw [hdv]; exact g1.1, (hal t u ht (by omega)).mpr g2.symm⟩
    · rintro ⟨z1, z2⟩
      refine ⟨z1.1, fun z => z1.2 ((hor t ht).mp z), fun u hu => ?_⟩
      rintro ⟨g1, g2⟩
      rw [hdv] at g1
      have g3 := (hal t u ht (by omega)).mp g2
      exact z2 u hu ⟨decide_eq_true ⟨g1, by rw [← g3]; exact z1.2⟩, g3.symm⟩
  · rw [bne_iff_ne, r11 (r + 1) (by omega) (by omega)]
    constructor
    · rintro ⟨c, g1, g2, g3, p, g4, g5⟩
      have e3 : 1 + (4 * (c - 1) + p) / 4 = c := by omega
      have e4 : (4 * (c - 1) + p) % 4 = p := by omega
      refine ⟨4 * (c - 1) + p, by omega, ?_, ?_⟩
      · rw [decide_eq_true_eq, e3, e4]
        refine ⟨(r7.2 c g1 g2).1.mp g3, ?_⟩
        show K 12 (K 4 c * 4 + p) ≠ 0
        omega
      · show rl_fn (K 4) (K 12) (1 + (4 * (c - 1) + p) / 4) ((4 * (c - 1) + p) % 4) = r + 1
        rw [e3, e4]
        exact g5
    · rintro ⟨t, g1, g2, g3⟩
      have g2 := of_decide_eq_true g2
      exact ⟨1 + t / 4, by omega, by omega, (r7.2 _ (by omega) (by omega)).1.mpr g2.1, t % 4, by omega, g3⟩
theorem rl_size {K : KT} (h : vd_Rel K) (hB : vd_Bd K) : vd_size K = vd_obM K := by
  unfold vd_size vd_obM
  rw [rl_b0 h, rl_b1 h hB, rl_b2 h hB, rl_b3 h hB]
theorem op_count {K : KT} (h : vd_Rel K) (hB : vd_Bd K) (x : Int32) : vd_ct (vd_ctN K) x = vd_ct (vd_ctM K) x := by
  unfold vd_ct
  cases hb : vd_in 0 9 x with
  | false => rw [if_neg (by decide), if_neg (by decide)]
  | true =>
    obtain ⟨c, h1, h2, rfl⟩ := vd_in_t hb
    rw [nI_clamp (show c < 2 ^ 31 by omega)]
    rcases (show c = 0 ∨ c = 1 ∨ c = 2 ∨ c = 3 ∨ c = 4 ∨ c = 5 ∨ c = 6 ∨ c = 7 ∨ c = 8 ∨ c = 9 by omega) with rfl | rfl | rfl | rfl | rfl | rfl | rfl | rfl | rfl | rfl
    all_goals rw [if_pos rfl, if_pos rfl]
    · exact congrArg nI (rl_b0 h)
    · exact congrArg nI (rl_b1 h hB)
    · exact congrArg nI (rl_b2 h hB)
    · exact congrArg nI (rl_b3 h hB)
    · exact congrArg nI h.1.1.symm
    · exact congrArg nI h.1.2.1.symm
    · exact congrArg nI (rl_here h).symm
    · exact congrArg nI h.1.2.2.symm
    · exact congrArg nI (rl_b8 h hB)
    · exact congrArg nI (rl_b9 h)
