/-! PURE: sweep -/
theorem vd_need_bit (K : KT) (k : Nat) : ∀ n, (vd_need K n).testBit k = true ↔ ((K 7 (K 41 0)).testBit k = true ∨ ∃ b, b < n ∧ (K 7 (K 3 b)).testBit k = true)
  | 0 => ⟨fun h => Or.inl h, fun h => by
    rcases h with h | ⟨b, hb, -⟩
    · exact h
    · exact absurd hb (Nat.not_lt_zero b)⟩
  | n + 1 => by
    show (vd_need K n ||| K 7 (K 3 n)).testBit k = true ↔ _
    rw [Nat.testBit_or, Bool.or_eq_true, vd_need_bit K k n]
    constructor
    · rintro ((h | ⟨b, hb, h⟩) | h)
      · exact Or.inl h
      · exact Or.inr ⟨b, by omega, h⟩
      · exact Or.inr ⟨n, by omega, h⟩
    · rintro (h | ⟨b, hb, h⟩)
      · exact Or.inl (Or.inl h)
      · by_cases e : b = n
        · subst e
          exact Or.inr h
        · exact Or.inl (Or.inr ⟨b, by omega, h⟩)
theorem vd_or2_22 (X : KT) (k : Nat) : ∀ n, vd_or2 X n 22 k ≠ 0 ↔ (X 22 k ≠ 0 ∨ (1 ≤ k ∧ k ≤ n ∧ X 21 k ≠ 0))
  | 0 => ⟨fun h => Or.inl h, fun h => by
    rcases h with h | ⟨h1, h2, -⟩
    · exact h
    · omega⟩
  | n + 1 => by
    have ih := vd_or2_22 X k n
    rw [vd_or2_s]
    by_cases h : X 21 (n + 1) ≠ 0
    · rw [if_pos h, vd_st_s]
      show (if k = n + 1 then 1 else vd_or2 X n 22 k) ≠ 0 ↔ _
      by_cases e : k = n + 1
      · rw [if_pos e]
        exact ⟨fun _ => Or.inr ⟨by omega, by omega, by rw [e]; exact h⟩, fun _ => by decide⟩
      · rw [if_neg e, ih]
        refine or_congr Iff.rfl ⟨fun z => ⟨z.1, by omega, z.2.2⟩, fun z => ⟨z.1, by omega, z.2.2⟩⟩
    · rw [if_neg h, ih]
      refine or_congr Iff.rfl ⟨fun z => ⟨z.1, by omega, z.2.2⟩, fun z => ⟨z.1, ?_, z.2.2⟩⟩
      by_cases e : k = n + 1
      · rw [e] at z
        exact absurd z.2.2 h
      · omega
theorem vd_sw1_22 {M : Nat} {an : Nat → Nat} {X : KT} (hA : vd_An M an (X 16) (X 17)) (hM : M ≤ 30) {k : Nat} (hk : k ≤ 30) : ∀ n, (∀ b, b < n → vd_swb X b ≤ M) → (vd_sw1 X n 22 k ≠ 0 ↔ (X 22 k ≠ 0 ∨ ∃ b, b < n ∧ (an (vd_swb X b)).testBit k = true))
  | 0, _ => ⟨fun h => Or.inl h, fun h => by
    rcases h with h | ⟨b, hb, -⟩
    · exact h
    · exact absurd hb (Nat.not_lt_zero b)⟩
  | n + 1, hs => by
    have ih := vd_sw1_22 hA hM hk n (fun b hb => hs b (by omega))
    rw [vd_sw1_s, vd_or2_22, vd_mar_o _ _ (by decide)]
    have hm := vd_mar_bit (K := vd_sw1 X n) (c := vd_swb X n) (by rw [vd_sw1_o X (by decide) (by decide), vd_sw1_o X (by decide) (by decide)]; exact hA) hM (hs n (by omega)) hk
    rw [hm, ih]
    constructor
    · rintro ((h | ⟨b, hb, h⟩) | h)
      · exact Or.inl h
      · exact Or.inr ⟨b, by omega, h⟩
      · exact Or.inr ⟨n, by omega, h.2.2⟩
    · rintro (h | ⟨b, hb, h⟩)
      · exact Or.inl (Or.inl h)
      · by_cases e : b = n
        · subst e
          have := hA.le _ (hs b (by omega)) k h
          exact Or.inr ⟨this.1, hk, h⟩
        · exact Or.inl (Or.inr ⟨b, by omega, h⟩)
theorem vd_bl3_20 (X : KT) (k v : Nat) : ∀ n, vd_bl3 X k n 20 v ≠ 0 ↔ (X 20 v ≠ 0 ∨ (X 15 k ≠ 0 ∧ ∃ f, f < n ∧ X 14 (16 * k + f) = v))
  | 0 => ⟨fun h => Or.inl h, fun h => by
    rcases h with h | ⟨-, b, hb, -⟩
    · exact h
    · exact absurd hb (Nat.not_lt_zero b)⟩
  | n + 1 => by
    have ih := vd_bl3_20 X k v n
    rw [vd_bl3_s]
    by_cases h : X 15 k ≠ 0
    · rw [if_pos h, vd_st_s]
      show (if v = X 14 (16 * k + n) then 1 else vd_bl3 X k n 20 v) ≠ 0 ↔ _
      by_cases e : v = X 14 (16 * k + n)
      · rw [if_pos e]
        exact ⟨fun _ => Or.inr ⟨h, n, by omega, e.symm⟩, fun _ => by decide⟩
      · rw [if_neg e, ih]
        refine or_congr Iff.rfl (and_congr Iff.rfl ⟨fun ⟨f, g1, g2⟩ => ⟨f, by omega, g2⟩, fun ⟨f, g1, g2⟩ => ⟨f, ?_, g2⟩⟩)
        by_cases e2 : f = n
        · rw [e2] at g2
          exact absurd g2.symm e
        · omega
    · rw [if_neg h, ih]
      refine or_congr Iff.rfl ⟨fun z => absurd z.1 h, fun z => absurd z.1 h⟩
theorem vd_sw3_15 (X : KT) (k : Nat) : ∀ n, vd_sw3 X n 15 k = if 1 ≤ k ∧ k ≤ n then X 22 k else X 15 k
  | 0 => by
    rw [if_neg (by omega)]
    rfl
  | n + 1 => by
    rw [vd_sw3_s, vd_bl3_o _ _ (by decide), vd_st_s]
    show (if k = n + 1 then X 22 (n + 1) else vd_sw3 X n 15 k) = _
    rw [vd_sw3_15 X k n]
    by_cases e : k = n + 1
    · rw [if_pos e, if_pos (by omega), e]
    · rw [if_neg e]
      by_cases e2 : 1 ≤ k ∧ k ≤ n
      · rw [if_pos e2, if_pos (by omega)]
      · rw [if_neg e2, if_neg (by omega)]
theorem vd_sw3_20 (X : KT) (v : Nat) : ∀ n, vd_sw3 X n 20 v ≠ 0 ↔ (X 20 v ≠ 0 ∨ ∃ k, 1 ≤ k ∧ k ≤ n ∧ X 22 k ≠ 0 ∧ ∃ f, f < 16 ∧ X 14 (16 * k + f) = v)
  | 0 => ⟨fun h => Or.inl h, fun h => by
    rcases h with h | ⟨k, h1, h2, -⟩
    · exact h
    · omega⟩
  | n + 1 => by
    have ih := vd_sw3_20 X v n
    rw [vd_sw3_s, vd_bl3_20, vd_st_o (by decide), ih, vd_st_s, vd_st_o (by decide), vd_sw3_o X (a := 14) (by decide) (by decide)]
    have e1 : (fun b => if b = n + 1 then X 22 (n + 1) else vd_sw3 X n 15 b) (n + 1) = X 22 (n + 1) := if_pos rfl
    rw [e1]
    constructor
    · rintro ((h | ⟨k, g1, g2, g3, g4⟩) | ⟨g3, g4⟩)
      · exact Or.inl h
      · exact Or.inr ⟨k, g1, by omega, g3, g4⟩
      · exact Or.inr ⟨n + 1, by omega, by omega, g3, g4⟩
    · rintro (h | ⟨k, g1, g2, g3, g4⟩)
      · exact Or.inl (Or.inl h)
      · by_cases e : k = n + 1
        · rw [e] at g3 g4
          exact Or.inr ⟨g3, g4⟩
        · exact Or.inl (Or.inr ⟨k, g1, by omega, g3, g4⟩)
theorem vd_sw4_20 (X : KT) (v : Nat) : ∀ n, vd_sw4 X n 20 v ≠ 0 ↔ (X 20 v ≠ 0 ∨ ∃ f, f < n ∧ X 14 (512 + f) = v)
  | 0 => ⟨fun h => Or.inl h, fun h => by
    rcases h with h | ⟨b, hb, -⟩
    · exact h
    · exact absurd hb (Nat.not_lt_zero b)⟩
  | n + 1 => by
    have ih := vd_sw4_20 X v n
    rw [vd_sw4_s, vd_st_s]
    show (if v = X 14 (512 + n) then 1 else vd_sw4 X n 20 v) ≠ 0 ↔ _
    by_cases e : v = X 14 (512 + n)
    · rw [if_pos e]
      exact ⟨fun _ => Or.inr ⟨n, by omega, e.symm⟩, fun _ => by decide⟩
    · rw [if_neg e, ih]
      refine or_congr Iff.rfl ⟨fun ⟨f, g1, g2⟩ => ⟨f, by omega, g2⟩, fun ⟨f, g1, g2⟩ => ⟨f, ?_, g2⟩⟩
      by_cases e2 : f = n
      · rw [e2] at g2
        exact absurd g2.symm e
      · omega
def bt (a : Nat → Nat) (x : Nat) : Prop := (a (x / 64)).testBit (x % 64) = true
theorem bt_1 {a : Nat → Nat} {v x : Nat} : bt (bk9 a v) x ↔ (bt a x ∨ (x ≠ 0 ∧ v = x)) := by
  unfold bt bk9
  by_cases h0 : v = 0
  · rw [if_pos h0]
    exact ⟨fun h => Or.inl h, fun h => by
      rcases h with h | ⟨h1, h2⟩
      · exact h
      · omega⟩
  · rw [if_neg h0]
    show ((if x / 64 = v / 64 then (a (v / 64) ||| 2 ^ (v % 64)) else a (x / 64)).testBit (x % 64) = true) ↔ _
    by_cases e : v = x
    · subst e
      rw [if_pos rfl, Nat.testBit_or, Nat.testBit_two_pow_self, Bool.or_true]
      exact ⟨fun _ => Or.inr ⟨h0, rfl⟩, fun _ => rfl⟩
    · by_cases e2 : x / 64 = v / 64
      · rw [if_pos e2, Nat.testBit_or, Nat.testBit_two_pow, decide_eq_false (by omega), Bool.or_false, ← e2]
        exact ⟨fun h => Or.inl h, fun h => h.resolve_right (fun z => e z.2)⟩
      · rw [if_neg e2]
        exact ⟨fun h => Or.inl h, fun h => h.resolve_right (fun z => e z.2)⟩
theorem bt_n {a v : Nat → Nat} {x : Nat} : ∀ n, bt (bks9 a v n) x ↔ (bt a x ∨ (x ≠ 0 ∧ ∃ i, i < n ∧ v i = x))
  | 0 => ⟨fun h => Or.inl h, fun h => by
    rcases h with h | ⟨-, b, hb, -⟩
    · exact h
    · exact absurd hb (Nat.not_lt_zero b)⟩
  | n + 1 => by
    show bt (bk9 (bks9 a v n) (v n)) x ↔ _
    rw [bt_1, bt_n n]
    constructor
    · rintro ((h | ⟨h, i, g1, g2⟩) | ⟨h, g⟩)
      · exact Or.inl h
      · exact Or.inr ⟨h, i, by omega, g2⟩
      · exact Or.inr ⟨h, n, by omega, g⟩
    · rintro (h | ⟨h, i, g1, g2⟩)
      · exact Or.inl (Or.inl h)
      · by_cases e : i = n
        · subst e
          exact Or.inr ⟨h, g2⟩
        · exact Or.inl (Or.inr ⟨h, i, by omega, g2⟩)
theorem vd_ka1_9 (Y : KT) (r : Nat) : ∀ n, vd_ka1 Y r n 9 = bks9 (Y 9) (fun q => Y 10 (r * 4 + q)) n
  | 0 => rfl
  | n + 1 => by
    show vd_bk (vd_ka1 Y r n) (Y 10 (r * 4 + n)) 9 = bk9 (bks9 (Y 9) (fun q => Y 10 (r * 4 + q)) n) (Y 10 (r * 4 + n))
    rw [vd_bk_9, vd_ka1_9 Y r n]
theorem vd_ka_13 (Y : KT) (r : Nat) : ∀ n, vd_ka Y r n 13 = fun i => if i = r then 1 else Y 13 i
  | 0 => vd_st_s
  | n + 1 => by rw [vd_ka_s, vd_ka1_o _ _ (by decide), vd_st_o (by decide), vd_ka_13 Y r n]
theorem vd_ka_11 (Y : KT) (r t : Nat) : ∀ n, vd_ka Y r n 11 t ≠ 0 ↔ (Y 11 t ≠ 0 ∨ ∃ p, p < n ∧ Y 12 (r * 4 + p) = t)
  | 0 => ⟨fun h => Or.inl h, fun h => by
    rcases h with h | ⟨b, hb, -⟩
    · exact h
    · exact absurd hb (Nat.not_lt_zero b)⟩
  | n + 1 => by
    have ih := vd_ka_11 Y r t n
    rw [vd_ka_s, vd_ka1_o _ _ (by decide), vd_st_s]
    show (if t = Y 12 (r * 4 + n) then 1 else vd_ka Y r n 11 t) ≠ 0 ↔ _
    by_cases e : t = Y 12 (r * 4 + n)
    · rw [if_pos e]
      exact ⟨fun _ => Or.inr ⟨n, by omega, e.symm⟩, fun _ => by decide⟩
    · rw [if_neg e, ih]
      refine or_congr Iff.rfl ⟨fun ⟨f, g1, g2⟩ => ⟨f, by omega, g2⟩, fun ⟨f, g1, g2⟩ => ⟨f, ?_, g2⟩⟩
      by_cases e2 : f = n
      · rw [e2] at g2
        exact absurd g2.symm e
      · omega
theorem vd_ka_9 (Y : KT) (r x : Nat) : ∀ n, bt (vd_ka Y r n 9) x ↔ (bt (Y 9) x ∨ (x ≠ 0 ∧ ∃ p, p < n ∧ ∃ q, q < 4 ∧ Y 10 (Y 12 (r * 4 + p) * 4 + q) = x))
  | 0 => ⟨fun h => Or.inl h, fun h => by
    rcases h with h | ⟨-, b, hb, -⟩
    · exact h
    · exact absurd hb (Nat.not_lt_zero b)⟩
  | n + 1 => by
    have ih := vd_ka_9 Y r x n
    rw [vd_ka_s, vd_ka1_9, vd_st_o (by decide), vd_st_o (by decide), vd_ka_o Y r (a := 10) (by decide) (by decide) (by decide), bt_n, ih]
    constructor
    · rintro ((h | ⟨h, p, g1, g2⟩) | ⟨h, g⟩)
      · exact Or.inl h
      · exact Or.inr ⟨h, p, by omega, g2⟩
      · exact Or.inr ⟨h, n, by omega, g⟩
    · rintro (h | ⟨h, p, g1, g2⟩)
      · exact Or.inl (Or.inl h)
      · by_cases e : p = n
        · subst e
          exact Or.inr ⟨h, g2⟩
        · exact Or.inl (Or.inr ⟨h, p, by omega, g2⟩)
theorem vd_ko_o2 (X : KT) {a : Nat} (h9 : a ≠ 9) (h11 : a ≠ 11) (h13 : a ≠ 13) : ∀ n, vd_ko X n a = X a
  | 0 => rfl
  | n + 1 => by
    rw [vd_ko_s]
    split
    · rw [vd_ka_o _ _ h9 h11 h13, vd_ko_o2 X h9 h11 h13 n]
    · exact vd_ko_o2 X h9 h11 h13 n
theorem vd_ko_all (X : KT) : ∀ n, (∀ r, vd_ko X n 13 r ≠ 0 ↔ (X 13 r ≠ 0 ∨ ∃ c, 1 ≤ c ∧ c ≤ n ∧ (X 44 0).testBit c = true ∧ X 4 c = r)) ∧
    (∀ r, vd_ko X n 11 r ≠ 0 ↔ (X 11 r ≠ 0 ∨ ∃ c, 1 ≤ c ∧ c ≤ n ∧ (X 44 0).testBit c = true ∧ ∃ p, p < 4 ∧ X 12 (X 4 c * 4 + p) = r)) ∧
    (∀ x, bt (vd_ko X n 9) x ↔ (bt (X 9) x ∨ ∃ c, 1 ≤ c ∧ c ≤ n ∧ (X 44 0).testBit c = true ∧ x ≠ 0 ∧ ∃ p, p < 4 ∧ ∃ q, q < 4 ∧ X 10 (X 12 (X 4 c * 4 + p) * 4 + q) = x))
  | 0 => by
    refine ⟨fun r => ⟨fun h => Or.inl h, fun h => ?_⟩, fun r => ⟨fun h => Or.inl h, fun h => ?_⟩, fun r => ⟨fun h => Or.inl h, fun h => ?_⟩⟩ <;>
    · rcases h with h | ⟨c, h1, h2, -⟩
      · exact h
      · omega
  | n + 1 => by
    obtain ⟨i1, i2, i3⟩ := vd_ko_all X n
    rw [vd_ko_s]
    have hstep : ∀ (P : Nat → Prop), (¬ (X 44 0).testBit (n + 1) = true) → ((∃ c, 1 ≤ c ∧ c ≤ n + 1 ∧ (X 44 0).testBit c = true ∧ P c) ↔ ∃ c, 1 ≤ c ∧ c ≤ n ∧ (X 44 0).testBit c = true ∧ P c) := fun P hb =>
      ⟨fun ⟨c, g1, g2, g3, g4⟩ => ⟨c, g1, by
        by_cases e : c = n + 1
        · rw [e] at g3
          exact absurd g3 hb
        · omega, g3, g4⟩, fun ⟨c, g1, g2, g3, g4⟩ => ⟨c, g1, by omega, g3, g4⟩⟩
    have hstep2 : ∀ (P : Nat → Prop), ((X 44 0).testBit (n + 1) = true) → ((∃ c, 1 ≤ c ∧ c ≤ n + 1 ∧ (X 44 0).testBit c = true ∧ P c) ↔ ((∃ c, 1 ≤ c ∧ c ≤ n ∧ (X 44 0).testBit c = true ∧ P c) ∨ P (n + 1))) := fun P hb =>
      ⟨fun ⟨c, g1, g2, g3, g4⟩ => by
        by_cases e : c = n + 1
        · rw [e] at g4
          exact Or.inr g4
        · exact Or.inl ⟨c, g1, by omega, g3, g4⟩, fun h => by
        rcases h with ⟨c, g1, g2, g3, g4⟩ | g4
        · exact ⟨c, g1, by omega, g3, g4⟩
        · exact ⟨n + 1, by omega, by omega, hb, g4⟩⟩
    by_cases hb : (X 44 0).testBit (n + 1) = true
    · rw [if_pos hb]
      refine ⟨fun r => ?_, fun r => ?_, fun x => ?_⟩
      · rw [hstep2 _ hb, ← or_assoc, ← i1 r, vd_ka_13]
        show (if r = X 4 (n + 1) then 1 else vd_ko X n 13 r) ≠ 0 ↔ _
        by_cases e : r = X 4 (n + 1)
        · rw [if_pos e]
          exact ⟨fun _ => Or.inr e.symm, fun _ => by decide⟩
        · rw [if_neg e]
          exact ⟨fun h => Or.inl h, fun h => h.resolve_right (fun z => e z.symm)⟩
      · rw [hstep2 _ hb, ← or_assoc, ← i2 r, vd_ka_11, vd_ko_o2 X (a := 12) (by decide) (by decide) (by decide)]
      · rw [hstep2 _ hb, ← or_assoc, ← i3 x, vd_ka_9, vd_ko_o2 X (a := 12) (by decide) (by decide) (by decide), vd_ko_o2 X (a := 10) (by decide) (by decide) (by decide)]
    · rw [if_neg hb]
      refine ⟨fun r => ?_, fun r => ?_, fun x => ?_⟩
      · rw [hstep _ hb]
        exact i1 r
      · rw [hstep _ hb]
        exact i2 r
      · rw [hstep _ hb]
        exact i3 x
theorem vd_swK_m {K : KT} {a : Nat} (h9 : a ≠ 9) (h11 : a ≠ 11) (h13 : a ≠ 13) (h44 : a ≠ 44) : vd_swK K a = K a := by
  unfold vd_swK vd_koK
  rw [vd_bks_o _ _ _ h9, vd_ko_o2 _ h9 h11 h13, vd_st_o h44, vd_fl_o h13, vd_fl_o h11, vd_fl_o h9]
theorem vd_swKM_m {K : KT} {a : Nat} (h15 : a ≠ 15) (h20 : a ≠ 20) (h21 : a ≠ 21) (h22 : a ≠ 22) : vd_swKM K a = K a := by
  unfold vd_swKM
  rw [vd_st_o h20, vd_sw4_o _ h20, vd_sw3_o _ h20 h15, vd_fl_o h20, vd_sw1_o _ h22 h21, vd_fl_o h22]
/-- what the class keeps -/
theorem vd_swK_all {K : KT} : vd_swK K 44 0 = vd_need K 6 ∧
    (∀ r, r < 31 → (vd_swK K 13 r ≠ 0 ↔ ∃ c, 1 ≤ c ∧ c ≤ K 43 0 ∧ (vd_need K 6).testBit c = true ∧ K 4 c = r)) ∧
    (∀ r, r < 121 → (vd_swK K 11 r ≠ 0 ↔ ∃ c, 1 ≤ c ∧ c ≤ K 43 0 ∧ (vd_need K 6).testBit c = true ∧ ∃ p, p < 4 ∧ K 12 (K 4 c * 4 + p) = r)) ∧
    (∀ x, x < 10048 → (bt (vd_swK K 9) x ↔ (x ≠ 0 ∧ ((∃ c, 1 ≤ c ∧ c ≤ K 43 0 ∧ (vd_need K 6).testBit c = true ∧ ∃ p, p < 4 ∧ ∃ q, q < 4 ∧ K 10 (K 12 (K 4 c * 4 + p) * 4 + q) = x) ∨ ∃ f, f < 16 ∧ K 1 f = x)))) := by
  obtain ⟨X, hX⟩ : ∃ X, X = vd_st (vd_fl (vd_fl (vd_fl K 9 0 157 (fun _ => 0)) 11 0 121 (fun _ => 0)) 13 0 31 (fun _ => 0)) 44 0 (vd_need K 6) := ⟨_, rfl⟩
  have e : vd_swK K = vd_bks (vd_ko X (K 43 0)) 1 0 16 := by rw [hX]; rfl
  have xo : ∀ a, a ≠ 9 → a ≠ 11 → a ≠ 13 → a ≠ 44 → X a = K a := fun a h9 h11 h13 h44 => by rw [hX, vd_st_o h44, vd_fl_o h13, vd_fl_o h11, vd_fl_o h9]
  have x44 : X 44 0 = vd_need K 6 := by rw [hX]; rfl
  have x13 : ∀ r, r < 31 → X 13 r = 0 := fun r hr => by
    rw [hX, vd_st_o (by decide), vd_fl_i]
    exact if_pos (by omega)
  have x11 : ∀ r, r < 121 → X 11 r = 0 := fun r hr => by
    rw [hX, vd_st_o (by decide), vd_fl_o (by decide), vd_fl_i]
    exact if_pos (by omega)
  have x9 : ∀ r, r < 157 → X 9 r = 0 := fun r hr => by
    rw [hX, vd_st_o (by decide), vd_fl_o (by decide), vd_fl_o (by decide), vd_fl_i]
    exact if_pos (by omega)
  obtain ⟨k1, k2, k3⟩ := vd_ko_all X (K 43 0)
  rw [x44, xo 4 (by decide) (by decide) (by decide) (by decide)] at k1
  rw [x44, xo 4 (by decide) (by decide) (by decide) (by decide), xo 12 (by decide) (by decide) (by decide) (by decide)] at k2
  rw [x44, xo 4 (by decide) (by decide) (by decide) (by decide), xo 12 (by decide) (by decide) (by decide) (by decide), xo 10 (by decide) (by decide) (by decide) (by decide)] at k3
  rw [e]
  refine ⟨?_, fun r hr => ?_, fun r hr => ?_, fun x hx => ?_⟩
  · rw [vd_bks_o _ _ _ (by decide), vd_ko_o2 _ (by decide) (by decide) (by decide), x44]
  · rw [vd_bks_o _ _ _ (by decide), k1 r, x13 r hr]
    exact ⟨fun h => h.resolve_left (fun z => z rfl), fun h => Or.inr h⟩
  · rw [vd_bks_o _ _ _ (by decide), k2 r, x11 r hr]
    exact ⟨fun h => h.resolve_left (fun z => z rfl), fun h => Or.inr h⟩
  · rw [vd_bks_9, bt_n, k3 x, vd_ko_o2 _ (by decide) (by decide) (by decide), xo 1 (by decide) (by decide) (by decide) (by decide)]
    have z : ¬ bt (X 9) x := by
      unfold bt
      rw [x9 _ (by omega), Nat.zero_testBit]
      decide
    constructor
    · rintro ((h | ⟨c, g1, g2, g3, g4, g5⟩) | ⟨h, f, g1, g2⟩)
      · exact absurd h z
      · exact ⟨g4, Or.inl ⟨c, g1, g2, g3, g5⟩⟩
      · exact ⟨h, Or.inr ⟨f, g1, by rw [← g2, Nat.zero_add]⟩⟩
    · rintro ⟨h, ⟨c, g1, g2, g3, g5⟩ | ⟨f, g1, g2⟩⟩
      · exact Or.inl (Or.inr ⟨c, g1, g2, g3, h, g5⟩)
      · exact Or.inr ⟨h, f, g1, by rw [← g2, Nat.zero_add]⟩
/-- what the reference keeps -/
theorem vd_swKM_all {M : Nat} {an : Nat → Nat} {K : KT} (hA : vd_An M an (K 16) (K 17)) (hM : M ≤ 30) (hs : ∀ b, b < 7 → vd_swb K b ≤ M) :
    (∀ k, 1 ≤ k → k ≤ 30 → (vd_swKM K 15 k ≠ 0 ↔ ∃ b, b < 7 ∧ (an (vd_swb K b)).testBit k = true)) ∧ vd_swKM K 20 0 = 0 ∧
    (∀ x, 1 ≤ x → x < 10000 → (vd_swKM K 20 x ≠ 0 ↔ ((∃ k, 1 ≤ k ∧ k ≤ 30 ∧ (∃ b, b < 7 ∧ (an (vd_swb K b)).testBit k = true) ∧ ∃ f, f < 16 ∧ K 14 (16 * k + f) = x) ∨ ∃ f, f < 16 ∧ K 14 (512 + f) = x))) := by
  obtain ⟨X, hX⟩ : ∃ X, X = vd_fl K 22 0 31 (fun _ => 0) := ⟨_, rfl⟩
  obtain ⟨Z, hZ⟩ : ∃ Z, Z = vd_fl (vd_sw1 X 7) 20 0 10000 (fun _ => 0) := ⟨_, rfl⟩
  have e : vd_swKM K = vd_st (vd_sw4 (vd_sw3 Z 30) 16) 20 0 0 := by rw [hZ, hX]; rfl
  have xo : ∀ a, a ≠ 22 → X a = K a := fun a h => by rw [hX]; exact vd_fl_o h
  have xb : ∀ b, vd_swb X b = vd_swb K b := fun b => by
    unfold vd_swb
    rw [xo 18 (by decide), xo 49 (by decide)]
  have z22 : ∀ k, 1 ≤ k → k ≤ 30 → (Z 22 k ≠ 0 ↔ ∃ b, b < 7 ∧ (an (vd_swb K b)).testBit k = true) := fun k h1 h2 => by
    have := vd_sw1_22 (X := X) (an := an) (M := M) (by rw [xo 16 (by decide), xo 17 (by decide)]; exact hA) hM h2 7 (fun b hb => by rw [xb b]; exact hs b hb)
    rw [hZ, vd_fl_o (by decide), this]
    have x0 : X 22 k = 0 := by
      rw [hX, vd_fl_i]
      exact if_pos (by omega)
    rw [x0]
    constructor
    · rintro (h | ⟨b, hb, h⟩)
      · exact absurd rfl h
      · exact ⟨b, hb, by rw [← xb b]; exact h⟩
    · rintro ⟨b, hb, h⟩
      exact Or.inr ⟨b, hb, by rw [xb b]; exact h⟩
  have z20 : ∀ x, x < 10000 → Z 20 x = 0 := fun x hx => by
    rw [hZ, vd_fl_i]
    exact if_pos (by omega)
  have z14 : Z 14 = K 14 := by rw [hZ, vd_fl_o (by decide), vd_sw1_o _ (by decide) (by decide), xo 14 (by decide)]
  rw [e]
  refine ⟨fun k h1 h2 => ?_, ?_, fun x h1 h2 => ?_⟩
  · rw [vd_st_o (by decide), vd_sw4_o _ (by decide), vd_sw3_15, if_pos ⟨h1, h2⟩]
    exact z22 k h1 h2
  · rw [vd_st_s]
    exact if_pos rfl
  · rw [vd_st_s]
    show (if x = 0 then 0 else vd_sw4 (vd_sw3 Z 30) 16 20 x) ≠ 0 ↔ _
    rw [if_neg (by omega), vd_sw4_20, vd_sw3_20, vd_sw3_o _ (by decide) (by decide), z14, z20 x h2]
    constructor
    · rintro ((h | ⟨k, g1, g2, g3, g4⟩) | h)
      · exact absurd rfl h
      · exact Or.inl ⟨k, g1, g2, (z22 k g1 g2).mp g3, g4⟩
      · exact Or.inr h
    · rintro (⟨k, g1, g2, g3, g4⟩ | h)
      · exact Or.inl (Or.inr ⟨k, g1, g2, (z22 k g1 g2).mpr g3, g4⟩)
      · exact Or.inr h
theorem vd_obM_of {K K1 : KT} (e14 : K1 14 = K 14) (e15 : K1 15 = K 15) (e20 : K1 20 = K 20) : vd_obM K1 = vd_obM K := by
  have s : ∀ a b, vd_same K1 a b = vd_same K a b := fun a b => by unfold vd_same; rw [e14]
  have al : ∀ a b, vd_alM K1 a b = vd_alM K a b := fun a b => by unfold vd_alM; rw [e14]
  have o : ∀ a, vd_orM K1 a = vd_orM K a := fun a => by unfold vd_orM; rw [e14]
  have f : ∀ t, vd_frF K1 t = vd_frF K t := fun t => by
    unfold vd_frF
    apply decide_eq_decide.mpr
    rw [e15, o]
    simp only [al]
  have r : ∀ t, vd_frR K1 t = vd_frR K t := fun t => by
    unfold vd_frR
    apply decide_eq_decide.mpr
    rw [e15]
    simp only [s]
  unfold vd_obM vd_c0 vd_c1 vd_c2 vd_c3
  rw [e15, e20, vd_cn_congr (P' := fun t => vd_frF K t) (fun i _ => f i), vd_cn_congr (P' := fun i => vd_frR K (i + 1)) (fun i _ => r (i + 1))]
theorem vd_size_of {K K1 : KT} (e9 : K1 9 = K 9) (e11 : K1 11 = K 11) (e13 : K1 13 = K 13) (e44 : K1 44 = K 44) (e45 : K1 45 = K 45) (e46 : K1 46 = K 46) : vd_size K1 = vd_size K := by
  have b : ∀ n, vd_bsz K1 n = vd_bsz K n := fun n => by
    induction n with
    | zero => rfl
    | succ n ih =>
      show vd_bsz K1 n + vd_pc 64 (K1 9 n) = vd_bsz K n + vd_pc 64 (K 9 n)
      rw [ih, e9]
  unfold vd_size vd_rsz
  rw [b, e11, e13, e44, e45, e46]
theorem rl_sweep {K : KT} (h : vd_Rel K) (hB : vd_Bd K) : vd_Rel (vd_swKM (vd_swK K)) := by
  obtain ⟨r1, r2, r3, r4, r5, r6, r7, r8, r9, r10, r11, r12, r13⟩ := h
  have hM : K 43 0 ≤ 30 := hB 43 0 (by decide)
  have hL : K 45 0 ≤ 120 := hB 45 0 (by decide)
  have hN : K 46 0 ≤ 30 := hB 46 0 (by decide)
  obtain ⟨s44, s13, s11, s9⟩ := vd_swK_all (K := K)
  have co : ∀ a, a ≠ 9 → a ≠ 11 → a ≠ 13 → a ≠ 44 → vd_swK K a = K a := fun a h9 h11 h13 h44 => vd_swK_m h9 h11 h13 h44
  generalize vd_swK K = K1 at *
  have eb : ∀ b, vd_swb K1 b = if b < 6 then K 3 b else K 41 0 := fun b => by
    unfold vd_swb
    rw [co 18 (by decide) (by decide) (by decide) (by decide), co 49 (by decide) (by decide) (by decide) (by decide), r2.1, r1.2.2]
  have hA : vd_An (K 43 0) (K 7) (K1 16) (K1 17) := by
    rw [co 16 (by decide) (by decide) (by decide) (by decide), co 17 (by decide) (by decide) (by decide) (by decide), r2.2.1, r2.2.2]
    exact r8
  have hs : ∀ b, b < 7 → vd_swb K1 b ≤ K 43 0 := fun b _ => by
    rw [eb]
    split
    · exact r9.1 b
    · exact r9.2
  obtain ⟨m15, m200, m20⟩ := vd_swKM_all hA hM hs
  rw [co 14 (by decide) (by decide) (by decide) (by decide)] at m20
  have mo : ∀ a, a ≠ 15 → a ≠ 20 → a ≠ 21 → a ≠ 22 → vd_swKM K1 a = K1 a := fun a h15 h20 h21 h22 => vd_swKM_m h15 h20 h21 h22
  generalize vd_swKM K1 = K2 at *
  have need : ∀ k, (vd_need K 6).testBit k = true ↔ ∃ b, b < 7 ∧ (K 7 (vd_swb K1 b)).testBit k = true := fun k => by
    rw [vd_need_bit]
    constructor
    · rintro (z | ⟨b, hb, z⟩)
      · exact ⟨6, by omega, by rw [eb, if_neg (by omega)]; exact z⟩
      · exact ⟨b, by omega, by rw [eb, if_pos hb]; exact z⟩
    · rintro ⟨b, hb, z⟩
      rw [eb] at z
      by_cases e : b < 6
      · rw [if_pos e] at z
        exact Or.inr ⟨b, e, z⟩
      · rw [if_neg e] at z
        exact Or.inl z
  have nle : ∀ k, (vd_need K 6).testBit k = true → 1 ≤ k ∧ k ≤ K 43 0 := fun k z => by
    obtain ⟨b, hb, z⟩ := (need k).mp z
    have := hA.le _ (hs b hb) k z
    have := hs b hb
    omega
  have c2 : ∀ a, a ∈ [0, 1, 3, 4, 5, 6, 7, 10, 12, 40, 41, 42, 43, 45, 46, 47, 48, 49, 14, 16, 17, 18, 19] → K2 a = K a := fun a ha => by
    simp only [List.mem_cons, List.not_mem_nil, or_false] at ha
    rw [mo a (by omega) (by omega) (by omega) (by omega), co a (by omega) (by omega) (by omega) (by omega)]
  have d9 : K2 9 = K1 9 := mo 9 (by decide) (by decide) (by decide) (by decide)
  have d11 : K2 11 = K1 11 := mo 11 (by decide) (by decide) (by decide) (by decide)
  have d13 : K2 13 = K1 13 := mo 13 (by decide) (by decide) (by decide) (by decide)
  have d44 : K2 44 0 = vd_need K 6 := by rw [mo 44 (by decide) (by decide) (by decide) (by decide), s44]
  unfold vd_Rel
  rw [d9, d11, d13, d44, c2 0 (by decide), c2 1 (by decide), c2 3 (by decide), c2 4 (by decide), c2 5 (by decide), c2 6 (by decide), c2 7 (by decide), c2 10 (by decide), c2 12 (by decide), c2 40 (by decide), c2 41 (by decide), c2 42 (by decide), c2 43 (by decide), c2 45 (by decide), c2 46 (by decide), c2 47 (by decide), c2 48 (by decide), c2 49 (by decide), c2 14 (by decide), c2 16 (by decide), c2 17 (by decide), c2 18 (by decide), c2 19 (by decide)]
  refine ⟨r1, r2, r3, r4, r5, r6, ⟨?_, fun c h1 h2 => ⟨?_, fun z => (nle c z).2⟩⟩, r8, r9, r10, fun r h1 h2 => ?_, fun r h1 h2 => ?_, ⟨m200, fun x hx => ?_⟩⟩
  · cases z : (vd_need K 6).testBit 0 with
    | false => rfl
    | true => exact absurd (nle 0 z).1 (by omega)
  · rw [m15 c h1 h2]
    exact need c
  · rw [s11 r (by omega)]
    exact ⟨fun ⟨c, g1, g2, g3⟩ => ⟨c, g1, by omega, g3⟩, fun ⟨c, g1, g2, g3⟩ => ⟨c, g1, (nle c g3.1).2, g3⟩⟩
  · rw [s13 r (by omega)]
    exact ⟨fun ⟨c, g1, g2, g3⟩ => ⟨c, g1, by omega, g3⟩, fun ⟨c, g1, g2, g3⟩ => ⟨c, g1, (nle c g3.1).2, g3⟩⟩
  · refine (s9 x hx).trans ?_
    have hK1 : ∀ f, f < 16 → K 14 (512 + f) = K 1 f := r5
    constructor
    · rintro ⟨h0, z⟩
      have hlt : x < 10000 := by
        rcases z with ⟨c, g1, g2, g3, p, hp, q, hq, g4⟩ | ⟨f, hf, g⟩
        · have e := rl_con r3 (c := c) (by omega) hp hq
          unfold rl_fn at e
          rw [g4] at e
          have := hB 14 (16 * c + (4 * p + q)) (by show 16 * c + (4 * p + q) < 544; omega)
          have : K 14 (16 * c + (4 * p + q)) ≤ 9999 := this
          omega
        · have : K 1 f ≤ 9999 := hB 1 f hf
          omega
      refine ⟨hlt, (m20 x (by omega) hlt).mpr ?_⟩
      rcases z with ⟨c, g1, g2, g3, p, hp, q, hq, g4⟩ | ⟨f, hf, g⟩
      · refine Or.inl ⟨c, g1, by omega, (need c).mp g3, 4 * p + q, by omega, ?_⟩
        have e := rl_con r3 (c := c) (by omega) hp hq
        unfold rl_fn at e
        rw [e, g4]
      · exact Or.inr ⟨f, hf, by rw [hK1 f hf, g]⟩
    · rintro ⟨hlt, z⟩
      have h0 : x ≠ 0 := fun e => by
        rw [e, m200] at z
        exact z rfl
      refine ⟨h0, ?_⟩
      rcases (m20 x (by omega) hlt).mp z with ⟨k, g1, g2, g3, f, hf, g4⟩ | ⟨f, hf, g⟩
      · have g3' := (need k).mpr g3
        refine Or.inl ⟨k, g1, (nle k g3').2, g3', f / 4, by omega, f % 4, by omega, ?_⟩
        have e := rl_con r3 (c := k) g2 (p := f / 4) (q := f % 4) (by omega) (by omega)
        unfold rl_fn at e
        rw [← e, ← g4]
        congr 1
        omega
      · exact Or.inr ⟨f, hf, by rw [← hK1 f hf, g]⟩
theorem op_sweep {K : KT} (h : vd_Rel K) (hB : vd_Bd K) (hB2 : vd_Bd (vd_swKM (vd_swK K))) : nI (vd_size K) - nI (vd_size (vd_swK K)) = nI (vd_obM (vd_swK K)) - nI (vd_obM (vd_swKM (vd_swK K))) ∧ vd_Rel (vd_swKM (vd_swK K)) := by
  have h2 := rl_sweep h hB
  refine ⟨?_, h2⟩
  have e1 := rl_size h hB
  have e2 := rl_size h2 hB2
  have e3 : vd_size (vd_swKM (vd_swK K)) = vd_size (vd_swK K) := vd_size_of (vd_swKM_m (by decide) (by decide) (by decide) (by decide)) (vd_swKM_m (by decide) (by decide) (by decide) (by decide)) (vd_swKM_m (by decide) (by decide) (by decide) (by decide)) (vd_swKM_m (by decide) (by decide) (by decide) (by decide)) (vd_swKM_m (by decide) (by decide) (by decide) (by decide)) (vd_swKM_m (by decide) (by decide) (by decide) (by decide))
  have e4 : vd_obM (vd_swK K) = vd_obM K := vd_obM_of (vd_swK_m (by decide) (by decide) (by decide) (by decide)) (vd_swK_m (by decide) (by decide) (by decide) (by decide)) (vd_swK_m (by decide) (by decide) (by decide) (by decide))
  rw [e4, ← e1, ← e2, e3]
