/-! PURE: the class's arrays against the reference's -/
def rl_A (a14 a4 a10 a12 : Nat → Nat) : Prop := ∀ c f, c ≤ 30 → f < 16 → a14 (16 * c + f) = a10 (a12 (a4 c * 4 + f / 4) * 4 + f % 4)
def rl_W (o : Nat) (a14 a0 : Nat → Nat) : Prop := ∀ f, f < 16 → a14 (o + f) = a0 f
def rl_C (x : Nat) (a19 : Nat → Nat) : Prop := ∀ f, f < 16 → (x.testBit f = true ↔ a19 f ≠ 0)
def rl_S (x M : Nat) (a15 : Nat → Nat) : Prop := x.testBit 0 = false ∧ ∀ c, 1 ≤ c → c ≤ 30 → (x.testBit c = true ↔ a15 c ≠ 0) ∧ (x.testBit c = true → c ≤ M)
def rl_T (M g : Nat) (a3 : Nat → Nat) : Prop := (∀ b, a3 b ≤ M) ∧ g ≤ M
/-- the rows of the folders and of the roots -/
def rl_R (M L N : Nat) (a4 a10 a12 : Nat → Nat) : Prop :=
  L ≤ 4 * M ∧ N ≤ M ∧ (∀ q, q < 4 → a10 q = 0) ∧ (∀ q, q < 4 → a12 q = 0) ∧ (∀ c, 1 ≤ c → c ≤ M → 1 ≤ a4 c ∧ a4 c ≤ N) ∧ (∀ c, c = 0 ∨ M < c → a4 c = 0) ∧
  (∀ r q, r ≤ N → q < 4 → a12 (r * 4 + q) ≤ L) ∧ (∀ r, 1 ≤ r → r ≤ L → ∃ q, q < 4 ∧ a10 (r * 4 + q) ≠ 0) ∧
  (∀ r t, 1 ≤ r → r ≤ L → 1 ≤ t → t ≤ L → (∀ q, q < 4 → a10 (r * 4 + q) = a10 (t * 4 + q)) → r = t) ∧
  (∀ r t, 1 ≤ r → r ≤ N → 1 ≤ t → t ≤ N → (∀ q, q < 4 → a12 (r * 4 + q) = a12 (t * 4 + q)) → r = t)
def rl_F (x L : Nat) (a4 a11 a12 : Nat → Nat) : Prop := ∀ r, 1 ≤ r → r ≤ L → (a11 r ≠ 0 ↔ ∃ c, 1 ≤ c ∧ c ≤ 30 ∧ x.testBit c = true ∧ ∃ p, p < 4 ∧ a12 (a4 c * 4 + p) = r)
def rl_G (x N : Nat) (a4 a13 : Nat → Nat) : Prop := ∀ r, 1 ≤ r → r ≤ N → (a13 r ≠ 0 ↔ ∃ c, 1 ≤ c ∧ c ≤ 30 ∧ x.testBit c = true ∧ a4 c = r)
def rl_B (a9 a20 : Nat → Nat) : Prop := a20 0 = 0 ∧ ∀ x, x < 10048 → ((a9 (x / 64)).testBit (x % 64) = true ↔ (x < 10000 ∧ a20 x ≠ 0))
def vd_Rel (K : KT) : Prop :=
  (K 47 0 = K 43 0 ∧ K 48 0 = K 40 0 ∧ K 49 0 = K 41 0) ∧ (K 18 = K 3 ∧ K 16 = K 5 ∧ K 17 = K 6) ∧
  rl_A (K 14) (K 4) (K 10) (K 12) ∧ rl_W 496 (K 14) (K 0) ∧ rl_W 512 (K 14) (K 1) ∧ rl_C (K 42 0) (K 19) ∧ rl_S (K 44 0) (K 43 0) (K 15) ∧
  vd_An (K 43 0) (K 7) (K 5) (K 6) ∧ rl_T (K 43 0) (K 41 0) (K 3) ∧ rl_R (K 43 0) (K 45 0) (K 46 0) (K 4) (K 10) (K 12) ∧
  rl_F (K 44 0) (K 45 0) (K 4) (K 11) (K 12) ∧ rl_G (K 44 0) (K 46 0) (K 4) (K 13) ∧ rl_B (K 9) (K 20)
/-- at the start all is 0 -/
theorem vd_Rel_0 : vd_Rel (fun _ _ => 0) := by
  refine ⟨⟨rfl, rfl, rfl⟩, ⟨rfl, rfl, rfl⟩, fun _ _ _ _ => rfl, fun _ _ => rfl, fun _ _ => rfl, fun f _ => ?_, ⟨Nat.zero_testBit 0, fun c _ _ => ?_⟩, ⟨rfl, fun c h1 h2 => absurd (show _ ≤ 0 from h2) (by omega)⟩, ⟨fun _ => Nat.le_refl 0, Nat.le_refl 0⟩, ?_, fun r h1 h2 => absurd (show _ ≤ 0 from h2) (by omega), fun r h1 h2 => absurd (show _ ≤ 0 from h2) (by omega), ⟨rfl, fun x _ => ?_⟩⟩
  · simp
  · simp
  · exact ⟨by decide, by decide, fun _ _ => rfl, fun _ _ => rfl, fun c h1 h2 => absurd (show _ ≤ 0 from h2) (by omega), fun _ _ => rfl, fun _ _ _ _ => Nat.le_refl 0, fun r h1 h2 => absurd (show _ ≤ 0 from h2) (by omega), fun r t h1 h2 => absurd (show _ ≤ 0 from h2) (by omega), fun r t h1 h2 => absurd (show _ ≤ 0 from h2) (by omega)⟩
  · simp
/-! what follows at once -/
theorem rl_cnt {K : KT} (h : rl_A (K 14) (K 4) (K 10) (K 12)) {c f : Nat} (hc : c ≤ 30) (hf : f < 16) : K 14 (16 * c + f) = vd_cnt K c f := h c f hc hf
theorem rl_here {K : KT} (h : vd_Rel K) : vd_hereM K = vd_here K := by
  unfold vd_hereM vd_here
  rw [h.1.2.1, h.2.1.1]
theorem rl_hereM {K : KT} (h : vd_Rel K) : vd_here K ≤ K 43 0 := h.2.2.2.2.2.2.2.2.1.1 _
theorem rl_there {K : KT} (h : vd_Rel K) (x : Int32) : vd_thM K x = vd_there K x := by
  unfold vd_thM vd_there
  rw [h.2.1.1]
theorem rl_sto {K : KT} (h : vd_Rel K) (x : Int32) : vd_stoM K x = vd_hol K x := by
  unfold vd_stoM vd_hol
  cases hi : vd_in 1 30 x with
  | false => rfl
  | true =>
    obtain ⟨c, h1, h2, rfl⟩ := vd_in_t hi
    rw [nI_clamp (by omega), Bool.true_and, Bool.true_and]
    have e := ((h.2.2.2.2.2.2.1).2 c h1 h2).1
    cases hb : (K 44 0).testBit c with
    | false =>
      rw [hb] at e
      have : K 15 c = 0 := Classical.byContradiction fun z => absurd (e.mpr z) (by decide)
      simp [this]
    | true =>
      have := e.mp hb
      simp [this]
theorem rl_ash {K : KT} (h : vd_Rel K) (hB : vd_Bd K) : vd_same K 32 (vd_hereM K) = vd_ash K 1 := by
  unfold vd_same vd_ash
  have hh : vd_here K ≤ 30 := Nat.le_trans (rl_hereM h) (hB 43 0 (by decide))
  refine vd_eqn_c ⟨fun z f hf => ?_, fun z f hf => ?_⟩
  · have := z f hf
    rw [rl_here h, rl_cnt h.2.2.1 hh hf] at this
    rw [← this]
    exact (h.2.2.2.2.1 f hf).symm
  · rw [rl_here h, rl_cnt h.2.2.1 hh hf, ← z f hf]
    exact h.2.2.2.2.1 f hf
theorem rl_tidy {K : KT} (h : vd_Rel K) (hB : vd_Bd K) : vd_tidyM K = vd_tidy K := by
  unfold vd_tidyM vd_tidy
  rw [rl_ash h hB]
  congr 1
  unfold vd_same vd_un
  cases hz : (vd_cn (fun f => K 0 f != K 1 f) 16 == 0) with
  | true =>
    have z := vd_cn_0 (eq_of_beq hz)
    refine vd_eqn_t (fun f hf => ?_)
    have z2 : (K 0 f != K 1 f) = false := z f hf
    rw [show 16 * 31 + f = 496 + f by omega, show 16 * 32 + f = 512 + f by omega, h.2.2.2.1 f hf, h.2.2.2.2.1 f hf]
    simpa using z2
  | false =>
    refine vd_eqn_f (fun z => ?_)
    have : vd_cn (fun f => K 0 f != K 1 f) 16 = 0 := vd_cn_zero (fun f hf => by
      have z2 := z f hf
      rw [show 16 * 31 + f = 496 + f by omega, show 16 * 32 + f = 512 + f by omega, h.2.2.2.1 f hf, h.2.2.2.2.1 f hf] at z2
      simp [z2])
    rw [this] at hz
    exact absurd hz (by decide)
