/-! PURE: ancestors. M: how far commits go; an: their bits; p1, p2: parents -/
def vd_An (M : Nat) (an p1 p2 : Nat → Nat) : Prop :=
  an 0 = 0 ∧ ∀ c, 1 ≤ c → c ≤ M → p1 c < c ∧ p2 c < c ∧ an c = 2 ^ c ||| an (p1 c) ||| an (p2 c)
theorem vd_An.bit {M : Nat} {an p1 p2 : Nat → Nat} (h : vd_An M an p1 p2) {c k : Nat} (h1 : 1 ≤ c) (h2 : c ≤ M) : (an c).testBit k = true ↔ (k = c ∨ (an (p1 c)).testBit k = true ∨ (an (p2 c)).testBit k = true) := by
  rw [(h.2 c h1 h2).2.2, Nat.testBit_or, Nat.testBit_or, Nat.testBit_two_pow, Bool.or_eq_true, Bool.or_eq_true, decide_eq_true_eq, or_assoc]
  exact or_congr ⟨fun e => e.symm, fun e => e.symm⟩ Iff.rfl
theorem vd_An.zero {M : Nat} {an p1 p2 : Nat → Nat} (h : vd_An M an p1 p2) {k : Nat} : (an 0).testBit k = false := by
  rw [h.1, Nat.zero_testBit]
/-- an ancestor is not greater, and not 0 -/
theorem vd_An.le {M : Nat} {an p1 p2 : Nat → Nat} (h : vd_An M an p1 p2) : ∀ (c : Nat), c ≤ M → ∀ k, (an c).testBit k = true → 1 ≤ k ∧ k ≤ c := by
  intro c
  induction c using Nat.strongRecOn with
  | ind c ih =>
    intro hc k hk
    by_cases h0 : c = 0
    · subst h0
      rw [h.zero] at hk
      exact absurd hk (by decide)
    · obtain ⟨q1, q2, -⟩ := h.2 c (by omega) hc
      rcases (h.bit (by omega) hc).mp hk with e | e | e
      · omega
      · have := ih _ q1 (by omega) k e
        omega
      · have := ih _ q2 (by omega) k e
        omega
theorem vd_An.self {M : Nat} {an p1 p2 : Nat → Nat} (h : vd_An M an p1 p2) {c : Nat} (h1 : 1 ≤ c) (h2 : c ≤ M) : (an c).testBit c = true := (h.bit h1 h2).mpr (Or.inl rfl)
theorem vd_An.trans {M : Nat} {an p1 p2 : Nat → Nat} (h : vd_An M an p1 p2) : ∀ (c : Nat), c ≤ M → ∀ k, (an c).testBit k = true → ∀ q, (an k).testBit q = true → (an c).testBit q = true := by
  intro c
  induction c using Nat.strongRecOn with
  | ind c ih =>
    intro hc k hk q hq
    by_cases h0 : c = 0
    · subst h0
      rw [h.zero] at hk
      exact absurd hk (by decide)
    · obtain ⟨q1, q2, -⟩ := h.2 c (by omega) hc
      rcases (h.bit (by omega) hc).mp hk with e | e | e
      · subst e
        exact hq
      · exact (h.bit (by omega) hc).mpr (Or.inr (Or.inl (ih _ q1 (by omega) k e q hq)))
      · exact (h.bit (by omega) hc).mpr (Or.inr (Or.inr (ih _ q2 (by omega) k e q hq)))
/-- an ancestor is the commit itself or a parent of a greater ancestor -/
theorem vd_An.step {M : Nat} {an p1 p2 : Nat → Nat} (h : vd_An M an p1 p2) : ∀ (c : Nat), 1 ≤ c → c ≤ M → ∀ k, (an c).testBit k = true → k = c ∨ ∃ q, k < q ∧ (an c).testBit q = true ∧ (p1 q = k ∨ p2 q = k) := by
  intro c
  induction c using Nat.strongRecOn with
  | ind c ih =>
    intro h1 hc k hk
    obtain ⟨q1, q2, -⟩ := h.2 c h1 hc
    have main : ∀ d, d < c → (d = p1 c ∨ d = p2 c) → (an d).testBit k = true → k = c ∨ ∃ q, k < q ∧ (an c).testBit q = true ∧ (p1 q = k ∨ p2 q = k) := by
      intro d hd hp e
      by_cases d0 : d = 0
      · subst d0
        rw [h.zero] at e
        exact absurd e (by decide)
      · rcases ih d hd (by omega) (by omega) k e with e2 | ⟨q, g1, g2, g3⟩
        · subst e2
          refine Or.inr ⟨c, hd, h.self h1 hc, ?_⟩
          rcases hp with z | z
          · exact Or.inl z.symm
          · exact Or.inr z.symm
        · refine Or.inr ⟨q, g1, ?_, g3⟩
          rcases hp with z | z
          · exact (h.bit h1 hc).mpr (Or.inr (Or.inl (z ▸ g2)))
          · exact (h.bit h1 hc).mpr (Or.inr (Or.inr (z ▸ g2)))
    rcases (h.bit h1 hc).mp hk with e | e | e
    · exact Or.inl e
    · exact main _ q1 (Or.inl rfl) e
    · exact main _ q2 (Or.inr rfl) e
theorem vd_topP_congr {P P' : Nat → Bool} : ∀ {n : Nat}, (∀ k, 1 ≤ k → k ≤ n → P k = P' k) → vd_topP P n = vd_topP P' n
  | 0, _ => rfl
  | n + 1, h => by
    rw [vd_topP_s, vd_topP_s, h (n + 1) (by omega) (by omega), vd_topP_congr (fun k h1 h2 => h k h1 (by omega))]
theorem vd_topP_has {P : Nat → Bool} : ∀ {n : Nat}, vd_topP P n ≠ 0 → P (vd_topP P n) = true
  | 0, h => absurd rfl h
  | n + 1, h => by
    rw [vd_topP_s] at h ⊢
    split
    · assumption
    · rename_i hn
      rw [if_neg hn] at h
      exact vd_topP_has h
theorem vd_topP_max {P : Nat → Bool} : ∀ {n k : Nat}, 1 ≤ k → k ≤ n → P k = true → k ≤ vd_topP P n
  | 0, k, h1, h2, _ => by omega
  | n + 1, k, h1, h2, hp => by
    rw [vd_topP_s]
    split
    · exact h2
    · rename_i hn
      by_cases e : k = n + 1
      · subst e
        exact absurd hp hn
      · exact vd_topP_max h1 (by omega) hp
/-- mark's loop: what is marked before place j is looked at -/
def vd_mI (an : Nat → Nat) (c j : Nat) (K : KT) : Prop := ∀ k, 1 ≤ k → k ≤ 30 → (K 21 k ≠ 0 ↔ ((k = c ∧ c ≠ 0) ∨ ∃ q, j < q ∧ (an c).testBit q = true ∧ (K 16 q = k ∨ K 17 q = k)))
theorem vd_mI_bit {M : Nat} {an : Nat → Nat} {K : KT} {c j : Nat} (hA : vd_An M an (K 16) (K 17)) (hM : M ≤ 30) (hc : c ≤ M) (h : vd_mI an c j K) {k : Nat} (hjk : j ≤ k) (h1 : 1 ≤ k) (h2 : k ≤ 30) : K 21 k ≠ 0 ↔ (an c).testBit k = true := by
  rw [h k h1 h2]
  constructor
  · rintro (⟨e, h0⟩ | ⟨q, g1, g2, g3⟩)
    · subst e
      exact hA.self h1 hc
    · have hq := hA.le c hc q g2
      obtain ⟨hp1, hp2, -⟩ := hA.2 q hq.1 (by omega)
      refine hA.trans c hc q g2 k ?_
      rcases g3 with e | e
      · exact (hA.bit hq.1 (by omega)).mpr (Or.inr (Or.inl (by rw [e]; exact hA.self h1 (by omega))))
      · exact (hA.bit hq.1 (by omega)).mpr (Or.inr (Or.inr (by rw [e]; exact hA.self h1 (by omega))))
  · intro hb
    by_cases h0 : c = 0
    · subst h0
      rw [hA.zero] at hb
      exact absurd hb (by decide)
    · rcases hA.step c (by omega) hc k hb with e | ⟨q, g1, g2, g3⟩
      · exact Or.inl ⟨e, h0⟩
      · exact Or.inr ⟨q, by omega, g2, g3⟩
theorem vd_mkd_I {M : Nat} {an : Nat → Nat} {c : Nat} (hM : M ≤ 30) (hc : c ≤ M) : ∀ (j : Nat), j ≤ 30 → ∀ K : KT, vd_An M an (K 16) (K 17) → vd_mI an c j K → vd_mI an c 0 (vd_mkd j K)
  | 0, _, K, _, h => h
  | j + 1, hj, K, hA, h => by
    rw [vd_mkd_s]
    have e16 : vd_mk1 K (j + 1) 16 = K 16 := vd_mk1_o _ _ (by decide)
    have e17 : vd_mk1 K (j + 1) 17 = K 17 := vd_mk1_o _ _ (by decide)
    refine vd_mkd_I hM hc j (by omega) _ (by rw [e16, e17]; exact hA) (fun k h1 h2 => ?_)
    rw [e16, e17]
    have hb := vd_mI_bit hA hM hc h (k := j + 1) (by omega) (by omega) hj
    have hk := h k h1 h2
    unfold vd_mk1
    by_cases hm : K 21 (j + 1) ≠ 0
    · rw [if_pos hm]
      have e2 : vd_st (vd_st K 21 (K 16 (j + 1)) 1) 21 (K 17 (j + 1)) 1 21 k = if k = K 17 (j + 1) then 1 else if k = K 16 (j + 1) then 1 else K 21 k := by
        rw [vd_st_s, vd_st_s]
      rw [e2]
      constructor
      · intro hz
        by_cases z1 : k = K 17 (j + 1)
        · exact Or.inr ⟨j + 1, by omega, hb.mp hm, Or.inr z1.symm⟩
        · rw [if_neg z1] at hz
          by_cases z2 : k = K 16 (j + 1)
          · exact Or.inr ⟨j + 1, by omega, hb.mp hm, Or.inl z2.symm⟩
          · rw [if_neg z2] at hz
            rcases hk.mp hz with g | ⟨q, g1, g2⟩
            · exact Or.inl g
            · exact Or.inr ⟨q, by omega, g2⟩
      · intro hz
        by_cases z1 : k = K 17 (j + 1)
        · rw [if_pos z1]
          decide
        · rw [if_neg z1]
          by_cases z2 : k = K 16 (j + 1)
          · rw [if_pos z2]
            decide
          · rw [if_neg z2]
            refine hk.mpr ?_
            rcases hz with g | ⟨q, g1, g2, g3⟩
            · exact Or.inl g
            · by_cases e : q = j + 1
              · subst e
                rcases g3 with g3 | g3
                · exact absurd g3.symm z2
                · exact absurd g3.symm z1
              · exact Or.inr ⟨q, by omega, g2, g3⟩
    · rw [if_neg hm]
      rw [hk]
      refine or_congr Iff.rfl ⟨fun ⟨q, g1, g2⟩ => ⟨q, by omega, g2⟩, fun ⟨q, g1, g2, g3⟩ => ?_⟩
      by_cases e : q = j + 1
      · subst e
        exact absurd (hb.mpr g2) hm
      · exact ⟨q, by omega, g2, g3⟩
/-- mark marks the ancestors -/
theorem vd_mar_bit {M : Nat} {an : Nat → Nat} {K : KT} {c : Nat} (hA : vd_An M an (K 16) (K 17)) (hM : M ≤ 30) (hc : c ≤ M) {k : Nat} (hk : k ≤ 30) : vd_mar K c 21 k ≠ 0 ↔ (an c).testBit k = true := by
  have e16 : vd_mk0 K c 31 16 = K 16 := vd_fl_o (by decide)
  have e17 : vd_mk0 K c 31 17 = K 17 := vd_fl_o (by decide)
  have h0 : vd_mI an c 30 (vd_mk0 K c 31) := by
    intro k h1 h2
    have e1 : vd_mk0 K c 31 21 k = if k = c ∧ c ≠ 0 then 1 else 0 := by
      unfold vd_mk0
      rw [vd_fl_i]
      show (if 0 ≤ k ∧ k < 0 + 31 then _ else _) = _
      rw [if_pos (by omega)]
      rfl
    rw [e1]
    constructor
    · intro hz
      by_cases z : k = c ∧ c ≠ 0
      · exact Or.inl z
      · rw [if_neg z] at hz
        exact absurd rfl hz
    · rintro (z | ⟨q, g1, g2, -⟩)
      · rw [if_pos z]
        decide
      · have := hA.le c hc q g2
        omega
  have h2 := vd_mkd_I hM hc 30 (by omega) _ (by rw [e16, e17]; exact hA) h0
  have f16 : vd_mkd 30 (vd_mk0 K c 31) 16 = K 16 := by rw [vd_mkd_o (by decide), e16]
  have f17 : vd_mkd 30 (vd_mk0 K c 31) 17 = K 17 := by rw [vd_mkd_o (by decide), e17]
  unfold vd_mar
  rw [vd_st_s]
  show (if k = 0 then 0 else vd_mkd 30 (vd_mk0 K c 31) 21 k) ≠ 0 ↔ _
  by_cases hz : k = 0
  · rw [if_pos hz]
    refine ⟨fun z => absurd rfl z, fun z => ?_⟩
    have := hA.le c hc k z
    omega
  · rw [if_neg hz]
    exact vd_mI_bit (by rw [f16, f17]; exact hA) hM hc h2 (Nat.zero_le k) (by omega) hk
theorem vd_shr_top {M : Nat} {an : Nat → Nat} {K : KT} {a b : Nat} (hA : vd_An M an (K 16) (K 17)) (hM : M ≤ 30) (ha : a ≤ M) (hb : b ≤ M) : vd_shr K a b = vd_top (an a &&& an b) 30 := by
  unfold vd_shr vd_top
  refine vd_topP_congr (fun k h1 h2 => ?_)
  have f16 : vd_fl (vd_mar K a) 22 0 31 (fun k => vd_mar K a 21 k) 16 = K 16 := by rw [vd_fl_o (by decide), vd_mar_o _ _ (by decide)]
  have f17 : vd_fl (vd_mar K a) 22 0 31 (fun k => vd_mar K a 21 k) 17 = K 17 := by rw [vd_fl_o (by decide), vd_mar_o _ _ (by decide)]
  have e1 : vd_shK K a b 21 k ≠ 0 ↔ (an b).testBit k = true := by
    unfold vd_shK
    exact vd_mar_bit (by rw [f16, f17]; exact hA) hM hb h2
  have e2 : vd_shK K a b 22 k ≠ 0 ↔ (an a).testBit k = true := by
    unfold vd_shK
    rw [vd_mar_o _ _ (by decide), vd_fl_i]
    show (if 0 ≤ k ∧ k < 0 + 31 then vd_mar K a 21 (k - 0) else _) ≠ 0 ↔ _
    rw [if_pos (by omega)]
    exact vd_mar_bit hA hM ha h2
  rw [Nat.testBit_and]
  cases h3 : (an a).testBit k with
  | false =>
    have z : vd_shK K a b 22 k = 0 := Classical.byContradiction fun z => absurd (e2.mp z) (by rw [h3]; decide)
    simp [z]
  | true =>
    have z := e2.mpr h3
    cases h4 : (an b).testBit k with
    | false =>
      have z2 : vd_shK K a b 21 k = 0 := Classical.byContradiction fun z => absurd (e1.mp z) (by rw [h4]; decide)
      simp [z2]
    | true =>
      have z2 := e1.mpr h4
      simp [z, z2]
/-- the meeting of a and b is b just where b is an ancestor of a -/
theorem vd_meet_r {M : Nat} {an p1 p2 : Nat → Nat} (hA : vd_An M an p1 p2) (hM : M ≤ 30) {a b : Nat} (ha : a ≤ M) (h1 : 1 ≤ b) (hb : b ≤ M) : vd_top (an a &&& an b) 30 = b ↔ (an a).testBit b = true := by
  constructor
  · intro e
    have h := vd_topP_has (P := fun k => (an a &&& an b).testBit k) (n := 30) (by show vd_top (an a &&& an b) 30 ≠ 0; omega)
    have h2 : (an a &&& an b).testBit (vd_top (an a &&& an b) 30) = true := h
    rw [e, Nat.testBit_and, Bool.and_eq_true] at h2
    exact h2.1
  · intro h
    have h2 : b ≤ vd_top (an a &&& an b) 30 := vd_topP_max h1 (by omega) (by show (an a &&& an b).testBit b = true; rw [Nat.testBit_and, h, hA.self h1 hb]; rfl)
    have h3 := vd_topP_has (P := fun k => (an a &&& an b).testBit k) (n := 30) (by show vd_top (an a &&& an b) 30 ≠ 0; omega)
    have h4 : (an a &&& an b).testBit (vd_top (an a &&& an b) 30) = true := h3
    rw [Nat.testBit_and, Bool.and_eq_true] at h4
    have := hA.le b hb _ h4.2
    omega
theorem vd_meet_l {M : Nat} {an p1 p2 : Nat → Nat} (hA : vd_An M an p1 p2) (hM : M ≤ 30) {a b : Nat} (h1 : 1 ≤ a) (ha : a ≤ M) (hb : b ≤ M) : vd_top (an a &&& an b) 30 = a ↔ (an b).testBit a = true := by
  rw [Nat.and_comm]
  exact vd_meet_r hA hM hb h1 ha
