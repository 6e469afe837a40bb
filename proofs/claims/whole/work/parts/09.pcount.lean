/-! PURE: counting -/
theorem vd_cn_s (P : Nat → Bool) (n : Nat) : vd_cn P (n + 1) = vd_cn P n + (P n).toNat := rfl
theorem vd_cn_congr {P P' : Nat → Bool} : ∀ {n : Nat}, (∀ i, i < n → P i = P' i) → vd_cn P n = vd_cn P' n
  | 0, _ => rfl
  | n + 1, h => by
    rw [vd_cn_s, vd_cn_s, vd_cn_congr (fun i hi => h i (by omega)), h n (by omega)]
theorem vd_cn_zero {P : Nat → Bool} : ∀ {n : Nat}, (∀ i, i < n → P i = false) → vd_cn P n = 0
  | 0, _ => rfl
  | n + 1, h => by
    rw [vd_cn_s, vd_cn_zero (fun i hi => h i (by omega)), h n (by omega)]
    rfl
theorem vd_cn_add (P : Nat → Bool) (m : Nat) : ∀ n, vd_cn P (m + n) = vd_cn P m + vd_cn (fun i => P (m + i)) n
  | 0 => rfl
  | n + 1 => by
    rw [← Nat.add_assoc, vd_cn_s, vd_cn_s, vd_cn_add P m n, Nat.add_assoc]
theorem vd_cn_0 {P : Nat → Bool} {n : Nat} (h : vd_cn P n = 0) : ∀ i, i < n → P i = false := by
  induction n with
  | zero => intro i hi; omega
  | succ n ih =>
    intro i hi
    rw [vd_cn_s] at h
    by_cases e : i = n
    · subst e
      cases hp : P i with
      | false => rfl
      | true => rw [hp] at h; simp at h
    · exact ih (by omega) i (by omega)
/-- one more place: the count grows by one -/
theorem vd_cn_one {P P' : Nat → Bool} {r : Nat} (hr : P r = false) (hr' : P' r = true) (ho : ∀ i, i ≠ r → P i = P' i) : ∀ {n : Nat}, r < n → vd_cn P' n = vd_cn P n + 1
  | 0, h => absurd h (by omega)
  | n + 1, h => by
    rw [vd_cn_s, vd_cn_s]
    by_cases e : r = n
    · subst e
      rw [hr, hr', vd_cn_congr (P := P') (P' := P) (fun i hi => (ho i (by omega)).symm)]
      rfl
    · rw [vd_cn_one hr hr' ho (by omega), ho n (fun z => e z.symm)]
      omega
/-- first occurrences of labels, counted, are the labels that occur -/
theorem vd_fresh {act : Nat → Bool} {g : Nat → Nat} {L : Nat} (n : Nat) (hg : ∀ t, t < n → act t = true → 1 ≤ g t ∧ g t ≤ L) :
    vd_cn (fun t => decide (act t = true ∧ ∀ u, u < t → ¬ (act u = true ∧ g u = g t))) n = vd_cn (fun r => decide (∃ t, t < n ∧ act t = true ∧ g t = r + 1)) L := by
  induction n with
  | zero =>
    symm
    exact vd_cn_zero (fun i _ => decide_eq_false (by rintro ⟨t, h, -⟩; omega))
  | succ n ih =>
    have ih := ih (fun t ht => hg t (by omega))
    rw [vd_cn_s, ih]
    by_cases hf : act n = true ∧ ∀ u, u < n → ¬ (act u = true ∧ g u = g n)
    · rw [decide_eq_true hf]
      obtain ⟨h1, h2⟩ := hg n (by omega) hf.1
      have e1 : g n - 1 + 1 = g n := by omega
      symm
      refine vd_cn_one (r := g n - 1) (decide_eq_false ?_) (decide_eq_true ⟨n, by omega, hf.1, e1.symm⟩) (fun i hi => ?_) (by omega)
      · rintro ⟨t, ht, ha, hgt⟩
        exact hf.2 t ht ⟨ha, by omega⟩
      · refine decide_eq_decide.mpr ⟨fun ⟨t, ht, ha, hgt⟩ => ⟨t, by omega, ha, hgt⟩, fun ⟨t, ht, ha, hgt⟩ => ?_⟩
        by_cases e : t = n
        · subst e
          exact absurd (show i = g t - 1 by omega) hi
        · exact ⟨t, by omega, ha, hgt⟩
    · rw [decide_eq_false hf]
      show _ + 0 = _
      rw [Nat.add_zero]
      refine vd_cn_congr (fun r _ => decide_eq_decide.mpr ⟨fun ⟨t, ht, ha, hgt⟩ => ⟨t, by omega, ha, hgt⟩, fun ⟨t, ht, ha, hgt⟩ => ?_⟩)
      by_cases e : t = n
      · subst e
        have hne : ∃ u, u < t ∧ act u = true ∧ g u = g t := Classical.byContradiction fun z => hf ⟨ha, fun u hu hh => z ⟨u, hu, hh⟩⟩
        obtain ⟨u, hu, hau, hgu⟩ := hne
        exact ⟨u, hu, hau, by omega⟩
      · exact ⟨t, by omega, ha, hgt⟩
theorem vd_fresh2 {act F R : Nat → Bool} {g : Nat → Nat} {L : Nat} (n : Nat) (hg : ∀ t, t < n → act t = true → 1 ≤ g t ∧ g t ≤ L) (hF : ∀ t, t < n → (F t = true ↔ (act t = true ∧ ∀ u, u < t → ¬ (act u = true ∧ g u = g t)))) (hR : ∀ r, r < L → (R r = true ↔ ∃ t, t < n ∧ act t = true ∧ g t = r + 1)) : vd_cn F n = vd_cn R L := by
  have h1 : vd_cn F n = vd_cn (fun t => decide (act t = true ∧ ∀ u, u < t → ¬ (act u = true ∧ g u = g t))) n := vd_cn_congr (fun t ht => by
    rw [Bool.eq_iff_iff, hF t ht, decide_eq_true_eq])
  have h2 : vd_cn (fun r => decide (∃ t, t < n ∧ act t = true ∧ g t = r + 1)) L = vd_cn R L := vd_cn_congr (fun r hr => by
    rw [Bool.eq_iff_iff, hR r hr, decide_eq_true_eq])
  rw [h1, vd_fresh n hg, h2]
/-- the bits of n words are the bits of one row -/
theorem vd_bsz_cn (K : KT) : ∀ n, vd_bsz K n = vd_cn (fun x => (K 9 (x / 64)).testBit (x % 64)) (64 * n)
  | 0 => rfl
  | n + 1 => by
    show vd_bsz K n + vd_pc 64 (K 9 n) = _
    rw [show 64 * (n + 1) = 64 * n + 64 by omega, vd_cn_add, vd_bsz_cn K n]
    congr 1
    refine vd_cn_congr (fun i hi => ?_)
    show (K 9 n).testBit i = (K 9 ((64 * n + i) / 64)).testBit ((64 * n + i) % 64)
    rw [show (64 * n + i) / 64 = n by omega, show (64 * n + i) % 64 = i by omega]
