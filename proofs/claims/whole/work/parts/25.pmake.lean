/-! PURE: rows are kept. A table (last, numbers) of distinct rows -/
theorem vd_fs_spec (P : Nat → Bool) : ∀ n r, (∀ t, r ≤ t → t < vd_fs P r n → P t = false) ∧ (vd_fs P r n < r + n → P (vd_fs P r n) = true)
  | 0, r => ⟨fun t h1 h2 => absurd h2 (by show ¬ t < r; omega), fun h => absurd h (by show ¬ r < r + 0; omega)⟩
  | n + 1, r => by
    rw [vd_fs_s]
    by_cases hp : P r = true
    · rw [if_pos hp]
      exact ⟨fun t h1 h2 => by omega, fun _ => hp⟩
    · rw [if_neg hp]
      obtain ⟨i1, i2⟩ := vd_fs_spec P n (r + 1)
      refine ⟨fun t h1 h2 => ?_, fun h => i2 (by omega)⟩
      by_cases e : t = r
      · subst e
        simpa using hp
      · exact i1 t (by omega) h2
/-- what keep does to a table: r its answer, L the last row, a the numbers, v the row that is kept -/
theorem vd_keep_spec {K : KT} {nn ss la src f : Nat} (d1 : nn ≠ ss) (d2 : nn ≠ la) (d3 : ss ≠ la) :
    1 ≤ vd_row K nn la src f ∧ vd_row K nn la src f ≤ K la 0 + 1 ∧
    (vd_keep K nn ss la src f la 0 = if vd_row K nn la src f ≤ K la 0 then K la 0 else K la 0 + 1) ∧
    (∀ q, q < 4 → vd_keep K nn ss la src f nn (vd_row K nn la src f * 4 + q) = K src (f + q)) ∧
    (∀ i, i < (K la 0 + 1) * 4 → vd_keep K nn ss la src f nn i = K nn i) ∧
    (vd_keep K nn ss la src f ss = fun i => if i = vd_row K nn la src f then 1 else K ss i) ∧
    (∀ r, 1 ≤ r → r ≤ K la 0 → (∀ q, q < 4 → K nn (r * 4 + q) = K src (f + q)) → vd_row K nn la src f ≤ K la 0) := by
  obtain ⟨s1, s2⟩ := vd_fs_spec (fun r => vd_alk K nn src r f) (K la 0) 1
  have hle := vd_row_le K nn la src f
  have hge : 1 ≤ vd_row K nn la src f := vd_fs_ge _ _ _
  have hrow : vd_row K nn la src f = vd_fs (fun r => vd_alk K nn src r f) 1 (K la 0) := rfl
  rw [← hrow] at s1 s2
  generalize hr : vd_row K nn la src f = r at *
  have kK : vd_keep K nn ss la src f = vd_st (if K la 0 < r then vd_st (vd_fl K nn (r * 4) 4 (fun b => K src (f + b))) la 0 r else K) ss r 1 := by
    unfold vd_keep
    rw [hr]
  rw [kK]
  refine ⟨hge, hle, ?_, ?_, ?_, ?_, ?_⟩
  · rw [vd_st_o (fun e => d3 e.symm)]
    by_cases hc : K la 0 < r
    · rw [if_pos hc, if_neg (by omega), vd_st_s]
      show (if 0 = 0 then r else _) = _
      rw [if_pos rfl]
      omega
    · rw [if_neg hc, if_pos (by omega)]
  · intro q hq
    rw [vd_st_o d1]
    by_cases hc : K la 0 < r
    · rw [if_pos hc, vd_st_o d2, vd_fl_i]
      show (if r * 4 ≤ r * 4 + q ∧ r * 4 + q < r * 4 + 4 then K src (f + (r * 4 + q - r * 4)) else _) = _
      rw [if_pos (by omega), Nat.add_sub_cancel_left]
    · rw [if_neg hc]
      have := s2 (by omega)
      exact vd_eqn_i.mp this q hq
  · intro i hi
    rw [vd_st_o d1]
    by_cases hc : K la 0 < r
    · rw [if_pos hc, vd_st_o d2, vd_fl_i]
      show (if r * 4 ≤ i ∧ i < r * 4 + 4 then _ else _) = _
      rw [if_neg (by omega)]
    · rw [if_neg hc]
  · rw [vd_st_s]
    by_cases hc : K la 0 < r
    · rw [if_pos hc, vd_st_o d3, vd_fl_o (fun e => d1 e.symm)]
    · rw [if_neg hc]
  · intro t h1 h2 h3
    by_cases hc : r ≤ K la 0
    · exact hc
    · have := s1 t h1 (by omega)
      have h4 : vd_alk K nn src t f = true := vd_eqn_t h3
      rw [h4] at this
      exact absurd this (by decide)
/-! blobs as arrays alone -/
def bk9 (a : Nat → Nat) (x : Nat) : Nat → Nat := if x = 0 then a else fun b => if b = x / 64 then a (x / 64) ||| 2 ^ (x % 64) else a b
def bl20 (a : Nat → Nat) (x : Nat) : Nat → Nat := if x = 0 then a else fun b => if b = x then 1 else a b
theorem vd_bk_9 {K : KT} {x : Nat} : vd_bk K x 9 = bk9 (K 9) x := by
  unfold vd_bk bk9
  split
  · rfl
  · rw [vd_st_s]
theorem vd_bl_20 {K : KT} {x : Nat} : vd_bl K x 20 = bl20 (K 20) x := by
  unfold vd_bl bl20
  split
  · rfl
  · rw [vd_st_s]
theorem rl_B_1 {a9 a20 : Nat → Nat} {x : Nat} (h : rl_B a9 a20) (hx : x ≤ 9999) : rl_B (bk9 a9 x) (bl20 a20 x) := by
  unfold bk9 bl20
  by_cases h0 : x = 0
  · rw [if_pos h0, if_pos h0]
    exact h
  · rw [if_neg h0, if_neg h0]
    refine ⟨?_, fun z hz => ?_⟩
    · show (if 0 = x then 1 else a20 0) = 0
      rw [if_neg (fun e => h0 e.symm)]
      exact h.1
    · show ((if z / 64 = x / 64 then (a9 (x / 64) ||| 2 ^ (x % 64)) else a9 (z / 64)).testBit (z % 64) = true) ↔ (z < 10000 ∧ (if z = x then 1 else a20 z) ≠ 0)
      by_cases e : z = x
      · subst e
        rw [if_pos rfl, if_pos rfl, Nat.testBit_or, Nat.testBit_two_pow_self, Bool.or_true]
        exact ⟨fun _ => ⟨by omega, by decide⟩, fun _ => rfl⟩
      · rw [if_neg e]
        by_cases e2 : z / 64 = x / 64
        · rw [if_pos e2, Nat.testBit_or, Nat.testBit_two_pow, decide_eq_false (by omega), Bool.or_false, ← e2]
          exact h.2 z hz
        · rw [if_neg e2]
          exact h.2 z hz
def bks9 (a v : Nat → Nat) : Nat → Nat → Nat
  | 0 => a
  | n + 1 => bk9 (bks9 a v n) (v n)
def bls20 (a v : Nat → Nat) : Nat → Nat → Nat
  | 0 => a
  | n + 1 => bl20 (bls20 a v n) (v n)
theorem rl_B_n {a9 a20 v : Nat → Nat} (h : rl_B a9 a20) : ∀ n, (∀ i, i < n → v i ≤ 9999) → rl_B (bks9 a9 v n) (bls20 a20 v n)
  | 0, _ => h
  | n + 1, hv => rl_B_1 (rl_B_n h n (fun i hi => hv i (by omega))) (hv n (by omega))
theorem bks9_add (a v : Nat → Nat) (m : Nat) : ∀ n, bks9 (bks9 a v m) (fun i => v (m + i)) n = bks9 a v (m + n)
  | 0 => rfl
  | n + 1 => by
    show bk9 (bks9 (bks9 a v m) (fun i => v (m + i)) n) (v (m + n)) = bk9 (bks9 a v (m + n)) (v (m + n))
    rw [bks9_add a v m n]
theorem bks9_congr {a v v' : Nat → Nat} : ∀ {n : Nat}, (∀ i, i < n → v i = v' i) → bks9 a v n = bks9 a v' n
  | 0, _ => rfl
  | n + 1, h => by
    show bk9 (bks9 a v n) (v n) = bk9 (bks9 a v' n) (v' n)
    rw [bks9_congr (fun i hi => h i (by omega)), h n (by omega)]
theorem bls20_congr {a v v' : Nat → Nat} : ∀ {n : Nat}, (∀ i, i < n → v i = v' i) → bls20 a v n = bls20 a v' n
  | 0, _ => rfl
  | n + 1, h => by
    show bl20 (bls20 a v n) (v n) = bl20 (bls20 a v' n) (v' n)
    rw [bls20_congr (fun i hi => h i (by omega)), h n (by omega)]
theorem vd_bks_9 {K : KT} {src f : Nat} : ∀ n, vd_bks K src f n 9 = bks9 (K 9) (fun i => K src (f + i)) n
  | 0 => rfl
  | n + 1 => by
    show vd_bk (vd_bks K src f n) (K src (f + n)) 9 = _
    rw [vd_bk_9, vd_bks_9 n]
    rfl
theorem vd_bls_20 {K : KT} {o : Nat} : ∀ n, vd_bls K o n 20 = bls20 (K 20) (fun i => K 14 (o + i)) n
  | 0 => rfl
  | n + 1 => by
    show vd_bl (vd_bls K o n) (K 14 (o + n)) 20 = _
    rw [vd_bl_20, vd_bls_20 n]
    rfl
/-! a table of folders -/
def tb_F (L : Nat) (a10 : Nat → Nat) : Prop := (∀ q, q < 4 → a10 q = 0) ∧ (∀ r, 1 ≤ r → r ≤ L → ∃ q, q < 4 ∧ a10 (r * 4 + q) ≠ 0) ∧ (∀ r t, 1 ≤ r → r ≤ L → 1 ≤ t → t ≤ L → (∀ q, q < 4 → a10 (r * 4 + q) = a10 (t * 4 + q)) → r = t)
theorem vd_por_0 {K : KT} {src f : Nat} : ∀ n, vd_por K src f n = 0 ↔ ∀ q, q < n → K src (f + q) = 0
  | 0 => ⟨fun _ q hq => absurd hq (by omega), fun _ => rfl⟩
  | n + 1 => by
    show vd_por K src f n ||| K src (f + n) = 0 ↔ _
    rw [Nat.or_eq_zero_iff, vd_por_0 n]
    constructor
    · rintro ⟨h1, h2⟩ q hq
      by_cases e : q = n
      · subst e
        exact h2
      · exact h1 q (by omega)
    · intro h
      exact ⟨fun q hq => h q (by omega), h n (by omega)⟩
theorem vd_kf_step {K : KT} {src f : Nat} (hs : src ≠ 9 ∧ src ≠ 10 ∧ src ≠ 11 ∧ src ≠ 45) (ht : tb_F (K 45 0) (K 10)) :
    tb_F (vd_kfK K src f 45 0) (vd_kfK K src f 10) ∧ K 45 0 ≤ vd_kfK K src f 45 0 ∧ vd_kfK K src f 45 0 ≤ K 45 0 + 1 ∧ vd_kfr K src f ≤ vd_kfK K src f 45 0 ∧
    (∀ q, q < 4 → vd_kfK K src f 10 (vd_kfr K src f * 4 + q) = K src (f + q)) ∧ (∀ i, i < (K 45 0 + 1) * 4 → vd_kfK K src f 10 i = K 10 i) ∧
    (∀ t, 1 ≤ t → (vd_kfK K src f 11 t ≠ 0 ↔ (K 11 t ≠ 0 ∨ t = vd_kfr K src f))) ∧ vd_kfK K src f 9 = bks9 (K 9) (fun i => K src (f + i)) 4 ∧
    (∀ t, K 45 0 < t → t ≤ vd_kfK K src f 45 0 → t = vd_kfr K src f) := by
  unfold vd_kfK vd_kfr
  have o10 : vd_bks K src f 4 10 = K 10 := vd_bks_o _ _ _ (by decide) _
  have o11 : vd_bks K src f 4 11 = K 11 := vd_bks_o _ _ _ (by decide) _
  have o45 : vd_bks K src f 4 45 = K 45 := vd_bks_o _ _ _ (by decide) _
  have osr : vd_bks K src f 4 src = K src := vd_bks_o _ _ _ hs.1 _
  have o9 := vd_bks_9 (K := K) (src := src) (f := f) 4
  by_cases hz : vd_por K src f 4 = 0
  · rw [if_pos hz, if_pos hz, o10, o11, o45]
    have hv := (vd_por_0 (K := K) (src := src) (f := f) 4).mp hz
    refine ⟨ht, Nat.le_refl _, Nat.le_succ _, Nat.zero_le _, fun q hq => ?_, fun i _ => rfl, fun t h1 => ⟨fun h => Or.inl h, fun h => ?_⟩, o9, fun t h1 h2 => by omega⟩
    · rw [Nat.zero_mul, Nat.zero_add, ht.1 q hq, hv q hq]
    · rcases h with h | h
      · exact h
      · omega
  · rw [if_neg hz, if_neg hz]
    have hnz : ∃ q, q < 4 ∧ K src (f + q) ≠ 0 := Classical.byContradiction fun z => hz ((vd_por_0 4).mpr (fun q hq => Classical.byContradiction fun z2 => z ⟨q, hq, z2⟩))
    obtain ⟨k1, k2, k3, k4, k5, k6, k7⟩ := vd_keep_spec (K := vd_bks K src f 4) (nn := 10) (ss := 11) (la := 45) (src := src) (f := f) (by decide) (by decide) (by decide)
    rw [o45] at k2 k3 k5 k7
    rw [o10] at k5 k7
    rw [osr] at k4 k7
    rw [o11] at k6
    have k9 : vd_keep (vd_bks K src f 4) 10 11 45 src f 9 = vd_bks K src f 4 9 := vd_keep_o (by decide) (by decide) (by decide)
    rw [k9]
    generalize vd_row (vd_bks K src f 4) 10 45 src f = r at *
    generalize vd_keep (vd_bks K src f 4) 10 11 45 src f = K' at *
    have hL : K 45 0 ≤ K' 45 0 ∧ K' 45 0 ≤ K 45 0 + 1 ∧ r ≤ K' 45 0 := by
      rw [k3]
      split
      · omega
      · omega
    have hold : ∀ t q, 1 ≤ t → t ≤ K' 45 0 → q < 4 → t ≠ r → K' 10 (t * 4 + q) = K 10 (t * 4 + q) ∧ t ≤ K 45 0 := by
      intro t q h1 h2 h3 h4
      have h5 : t ≤ K 45 0 := by
        rw [k3] at h2
        by_cases hc : r ≤ K 45 0
        · rw [if_pos hc] at h2
          exact h2
        · rw [if_neg hc] at h2
          omega
      exact ⟨k5 _ (by omega), h5⟩
    refine ⟨⟨fun q hq => ?_, fun t h1 h2 => ?_, fun t u h1 h2 h3 h4 he => ?_⟩, hL.1, hL.2.1, hL.2.2, k4, k5, fun t h1 => ?_, o9, fun t h1 h2 => ?_⟩
    · rw [k5 q (by omega)]
      exact ht.1 q hq
    · by_cases e : t = r
      · subst e
        obtain ⟨q, hq, hn⟩ := hnz
        exact ⟨q, hq, by rw [k4 q hq]; exact hn⟩
      · have h5 := (hold t 0 h1 h2 (by omega) e).2
        obtain ⟨q, hq, hn⟩ := ht.2.1 t h1 h5
        exact ⟨q, hq, by rw [(hold t q h1 h2 hq e).1]; exact hn⟩
    · by_cases e : t = r
      · by_cases e2 : u = r
        · omega
        · have g := (hold u 0 h3 h4 (by omega) e2).2
          have hr := k7 u h3 g (fun q hq => by rw [← (hold u q h3 h4 hq e2).1, ← he q hq, e]; exact k4 q hq)
          subst e
          exact ht.2.2 t u h1 hr h3 g (fun q hq => by rw [← k5 _ (by omega), ← k5 _ (by omega)]; exact he q hq)
      · by_cases e2 : u = r
        · have g := (hold t 0 h1 h2 (by omega) e).2
          have hr := k7 t h1 g (fun q hq => by rw [← (hold t q h1 h2 hq e).1, he q hq, e2]; exact k4 q hq)
          subst e2
          exact ht.2.2 t u h1 g h3 hr (fun q hq => by rw [← k5 _ (by omega), ← k5 _ (by omega)]; exact he q hq)
        · exact ht.2.2 t u h1 (hold t 0 h1 h2 (by omega) e).2 h3 (hold u 0 h3 h4 (by omega) e2).2 (fun q hq => by rw [← (hold t q h1 h2 hq e).1, ← (hold u q h3 h4 hq e2).1]; exact he q hq)
    · rw [k6]
      show (if t = r then 1 else K 11 t) ≠ 0 ↔ _
      by_cases e : t = r
      · rw [if_pos e]
        exact ⟨fun _ => Or.inr e, fun _ => by decide⟩
      · rw [if_neg e]
        exact ⟨fun h => Or.inl h, fun h => h.elim id (fun z => absurd z e)⟩
    · rw [k3] at h2
      by_cases hc : r ≤ K 45 0
      · rw [if_pos hc] at h2
        omega
      · rw [if_neg hc] at h2
        omega
def tb_K (K0 K : KT) (src i : Nat) : Prop :=
  tb_F (K 45 0) (K 10) ∧ K0 45 0 ≤ K 45 0 ∧ K 45 0 ≤ K0 45 0 + i ∧ (∀ p, p < i → K 8 p ≤ K 45 0 ∧ ∀ q, q < 4 → K 10 (K 8 p * 4 + q) = K0 src (4 * p + q)) ∧
  (∀ j, j < (K0 45 0 + 1) * 4 → K 10 j = K0 10 j) ∧ (∀ t, 1 ≤ t → (K 11 t ≠ 0 ↔ (K0 11 t ≠ 0 ∨ ∃ p, p < i ∧ t = K 8 p))) ∧ K 9 = bks9 (K0 9) (fun j => K0 src j) (4 * i) ∧ (∀ t, K0 45 0 < t → t ≤ K 45 0 → ∃ p, p < i ∧ t = K 8 p)
theorem vd_kf_I {K0 : KT} {src : Nat} (hs : src = 1 ∨ src = 2) (ht : tb_F (K0 45 0) (K0 10)) : ∀ i, tb_K K0 (vd_kf K0 src i) src i
  | 0 => ⟨ht, Nat.le_refl _, Nat.le_refl _, fun p hp => absurd hp (by omega), fun _ _ => rfl, fun t _ => ⟨fun h => Or.inl h, fun h => h.elim id (fun ⟨p, hp, _⟩ => absurd hp (by omega))⟩, rfl, fun t h1 h2 => absurd h2 (by show ¬ t ≤ K0 45 0; omega)⟩
  | i + 1 => by
    obtain ⟨i1, i2, i3, i4, i5, i6, i7, i8⟩ := vd_kf_I hs ht i
    have osr : vd_kf K0 src i src = K0 src := vd_kf_o (by omega) (by omega) (by omega) (by omega) (by omega) i
    obtain ⟨s1, s2, s3, s4, s5, s6, s7, s8, s9⟩ := vd_kf_step (K := vd_kf K0 src i) (src := src) (f := i * 4) ⟨by omega, by omega, by omega, by omega⟩ i1
    have o8 : vd_kfK (vd_kf K0 src i) src (i * 4) 8 = vd_kf K0 src i 8 := vd_kfK_o (by decide) (by decide) (by decide) (by decide)
    rw [vd_kf_s]
    rw [osr] at s5 s8
    generalize vd_kfK (vd_kf K0 src i) src (i * 4) = K' at *
    generalize vd_kfr (vd_kf K0 src i) src (i * 4) = r at *
    generalize vd_kf K0 src i = K at *
    have e8 : ∀ p, vd_st K' 8 i r 8 p = if p = i then r else K 8 p := fun p => by rw [vd_st_s, o8]
    have e10 : vd_st K' 8 i r 10 = K' 10 := vd_st_o (by decide)
    have e11 : vd_st K' 8 i r 11 = K' 11 := vd_st_o (by decide)
    have e45 : vd_st K' 8 i r 45 = K' 45 := vd_st_o (by decide)
    have e9 : vd_st K' 8 i r 9 = K' 9 := vd_st_o (by decide)
    unfold tb_K
    rw [e10, e11, e45, e9]
    refine ⟨s1, by omega, by omega, fun p hp => ?_, fun j hj => ?_, fun t h1 => ?_, ?_, fun t h1 h2 => ?_⟩
    · rw [e8]
      by_cases e : p = i
      · rw [if_pos e]
        refine ⟨s4, fun q hq => ?_⟩
        rw [s5 q hq, e]
        congr 1
        omega
      · rw [if_neg e]
        obtain ⟨g1, g2⟩ := i4 p (by omega)
        refine ⟨by omega, fun q hq => ?_⟩
        rw [s6 _ (by omega)]
        exact g2 q hq
    · rw [s6 j (by omega)]
      exact i5 j hj
    · rw [s7 t h1, i6 t h1]
      constructor
      · rintro ((h | ⟨p, hp, h⟩) | h)
        · exact Or.inl h
        · exact Or.inr ⟨p, by omega, by rw [e8, if_neg (by omega)]; exact h⟩
        · exact Or.inr ⟨i, by omega, by rw [e8, if_pos rfl]; exact h⟩
      · rintro (h | ⟨p, hp, h⟩)
        · exact Or.inl (Or.inl h)
        · rw [e8] at h
          by_cases e : p = i
          · rw [if_pos e] at h
            exact Or.inr h
          · rw [if_neg e] at h
            exact Or.inl (Or.inr ⟨p, by omega, h⟩)
    · rw [s8, i7]
      have := bks9_add (K0 9) (fun j => K0 src j) (4 * i) 4
      rw [show 4 * (i + 1) = 4 * i + 4 by omega, ← this]
      refine bks9_congr (fun j _ => ?_)
      show K0 src (i * 4 + j) = K0 src (4 * i + j)
      congr 1
      omega
    · by_cases hl : t ≤ K 45 0
      · obtain ⟨p, g1, g2⟩ := i8 t h1 hl
        exact ⟨p, by omega, by rw [e8, if_neg (by omega)]; exact g2⟩
      · exact ⟨i, by omega, by rw [e8, if_pos rfl]; exact s9 t (by omega) h2⟩
/-- what make brings to the class's tables -/
theorem rl_make {K : KT} {src a b : Nat} (hs : src = 1 ∨ src = 2) (hB : vd_Bd K) (hm : K 43 0 < 30) (ha : a ≤ K 43 0) (hb : b ≤ K 43 0) (hR : rl_R (K 43 0) (K 45 0) (K 46 0) (K 4) (K 10) (K 12)) (hF : rl_F (K 44 0) (K 45 0) (K 4) (K 11) (K 12)) (hG : rl_G (K 44 0) (K 46 0) (K 4) (K 13)) (hS : ∀ c, 1 ≤ c → c ≤ 30 → (K 44 0).testBit c = true → c ≤ K 43 0) (K' : KT) (eK : K' = vd_mkK K src a b) :
    K' 43 0 = K 43 0 + 1 ∧ K' 44 0 = K 44 0 ||| 2 ^ (K 43 0 + 1) ∧ (K' 5 = fun c => if c = K 43 0 + 1 then a else K 5 c) ∧ (K' 6 = fun c => if c = K 43 0 + 1 then b else K 6 c) ∧
    (K' 7 = fun c => if c = K 43 0 + 1 then 2 ^ (K 43 0 + 1) ||| K 7 a ||| K 7 b else K 7 c) ∧ rl_R (K 43 0 + 1) (K' 45 0) (K' 46 0) (K' 4) (K' 10) (K' 12) ∧
    (∀ c f, c ≤ 30 → f < 16 → vd_cnt K' c f = if c = K 43 0 + 1 then K src f else vd_cnt K c f) ∧ rl_F (K' 44 0) (K' 45 0) (K' 4) (K' 11) (K' 12) ∧ rl_G (K' 44 0) (K' 46 0) (K' 4) (K' 13) ∧ K' 9 = bks9 (K 9) (fun j => K src j) 16 := by
  obtain ⟨R1, R2, R3, R4, R5, R6, R7, R8, R9, R10⟩ := hR
  -- the folders
  have hn0 : ∀ j, vd_st K 43 0 (K 43 0 + 1) j = if j = 43 then (fun x => if x = 0 then K 43 0 + 1 else K 43 x) else K j := fun j => rfl
  have ht : tb_F (vd_st K 43 0 (K 43 0 + 1) 45 0) (vd_st K 43 0 (K 43 0 + 1) 10) := ⟨R3, R8, R9⟩
  have hI := vd_kf_I hs ht 4
  have o43 : ∀ j, j ≠ 43 → vd_st K 43 0 (K 43 0 + 1) j = K j := fun j h => vd_st_o h
  generalize hK0 : vd_st K 43 0 (K 43 0 + 1) = K0 at *
  have hsrc : K0 src = K src := o43 src (by omega)
  obtain ⟨i1, i2, i3, i4, i5, i6, i7, i8⟩ := hI
  -- the root
  obtain ⟨k1, k2, k3, k4, k5, k6, k7⟩ := vd_keep_spec (K := vd_kf K0 src 4) (nn := 12) (ss := 13) (la := 46) (src := 8) (f := 0) (by decide) (by decide) (by decide)
  have f46 : vd_kf K0 src 4 46 = K 46 := by rw [vd_kf_o (by decide) (by decide) (by decide) (by decide) (by decide), o43 46 (by decide)]
  have f12 : vd_kf K0 src 4 12 = K 12 := by rw [vd_kf_o (by decide) (by decide) (by decide) (by decide) (by decide), o43 12 (by decide)]
  have f13 : vd_kf K0 src 4 13 = K 13 := by rw [vd_kf_o (by decide) (by decide) (by decide) (by decide) (by decide), o43 13 (by decide)]
  rw [f46] at k2 k3 k5 k7
  rw [f12] at k5 k7
  rw [f13] at k6
  have ekr : vd_krK K0 src = vd_keep (vd_kf K0 src 4) 12 13 46 8 0 := rfl
  have err : vd_krr K0 src = vd_row (vd_kf K0 src 4) 12 46 8 0 := rfl
  have ro : ∀ j, j ≠ 8 → j ≠ 9 → j ≠ 10 → j ≠ 11 → j ≠ 12 → j ≠ 13 → j ≠ 43 → j ≠ 45 → j ≠ 46 → vd_krK K0 src j = K j := fun j h8 h9 h10 h11 h12 h13 h43 h45 h46 => by rw [vd_krK_o h8 h9 h10 h11 h12 h13 h45 h46, o43 j h43]
  have r43 : vd_krK K0 src 43 0 = K 43 0 + 1 := by rw [vd_krK_43, ← hK0]; rfl
  have r9 : vd_krK K0 src 9 = vd_kf K0 src 4 9 := by rw [ekr]; exact vd_keep_o (by decide) (by decide) (by decide)
  have r10 : vd_krK K0 src 10 = vd_kf K0 src 4 10 := by rw [ekr]; exact vd_keep_o (by decide) (by decide) (by decide)
  have r11 : vd_krK K0 src 11 = vd_kf K0 src 4 11 := by rw [ekr]; exact vd_keep_o (by decide) (by decide) (by decide)
  have r45 : vd_krK K0 src 45 = vd_kf K0 src 4 45 := by rw [ekr]; exact vd_keep_o (by decide) (by decide) (by decide)
  have eK2 : K' = vd_st (vd_st (vd_st (vd_st (vd_st (vd_krK K0 src) 4 (K 43 0 + 1) (vd_krr K0 src)) 5 (K 43 0 + 1) a) 6 (K 43 0 + 1) b) 7 (K 43 0 + 1) (2 ^ (K 43 0 + 1) ||| K 7 a ||| K 7 b)) 44 0 (K 44 0 ||| 2 ^ (K 43 0 + 1)) := by
    rw [eK]
    unfold vd_mkK
    simp only [hK0]
    have q7 : vd_st (vd_st (vd_st (vd_krK K0 src) 4 (K 43 0 + 1) (vd_krr K0 src)) 5 (K 43 0 + 1) a) 6 (K 43 0 + 1) b 7 = K 7 := by
      rw [vd_st_o (by decide), vd_st_o (by decide), vd_st_o (by decide), ro 7 (by decide) (by decide) (by decide) (by decide) (by decide) (by decide) (by decide) (by decide) (by decide)]
    have q44 : vd_st (vd_st (vd_st (vd_krK K0 src) 4 (K 43 0 + 1) (vd_krr K0 src)) 5 (K 43 0 + 1) a) 6 (K 43 0 + 1) b 44 = K 44 := by
      rw [vd_st_o (by decide), vd_st_o (by decide), vd_st_o (by decide), ro 44 (by decide) (by decide) (by decide) (by decide) (by decide) (by decide) (by decide) (by decide) (by decide)]
    rw [q7, q44]
  rw [← ekr, ← err] at k4
  rw [← ekr] at k3 k5 k6
  rw [← err] at k1 k2 k3 k6 k7
  generalize vd_krr K0 src = rr at *
  have E43 : K' 43 0 = K 43 0 + 1 := by rw [eK2, vd_st_o (by decide), vd_st_o (by decide), vd_st_o (by decide), vd_st_o (by decide), vd_st_o (by decide)]; exact r43
  have E44 : K' 44 0 = K 44 0 ||| 2 ^ (K 43 0 + 1) := by rw [eK2, vd_st_s]; exact if_pos rfl
  have E5 : K' 5 = fun c => if c = K 43 0 + 1 then a else K 5 c := by rw [eK2, vd_st_o (by decide), vd_st_o (by decide), vd_st_o (by decide), vd_st_s, vd_st_o (by decide), ro 5 (by decide) (by decide) (by decide) (by decide) (by decide) (by decide) (by decide) (by decide) (by decide)]
  have E6 : K' 6 = fun c => if c = K 43 0 + 1 then b else K 6 c := by rw [eK2, vd_st_o (by decide), vd_st_o (by decide), vd_st_s, vd_st_o (by decide), vd_st_o (by decide), ro 6 (by decide) (by decide) (by decide) (by decide) (by decide) (by decide) (by decide) (by decide) (by decide)]
  have E7 : K' 7 = fun c => if c = K 43 0 + 1 then 2 ^ (K 43 0 + 1) ||| K 7 a ||| K 7 b else K 7 c := by rw [eK2, vd_st_o (by decide), vd_st_s, vd_st_o (by decide), vd_st_o (by decide), vd_st_o (by decide), ro 7 (by decide) (by decide) (by decide) (by decide) (by decide) (by decide) (by decide) (by decide) (by decide)]
  have E4 : K' 4 = fun c => if c = K 43 0 + 1 then rr else K 4 c := by rw [eK2, vd_st_o (by decide), vd_st_o (by decide), vd_st_o (by decide), vd_st_o (by decide), vd_st_s, ro 4 (by decide) (by decide) (by decide) (by decide) (by decide) (by decide) (by decide) (by decide) (by decide)]
  have Eo : ∀ j, j ≠ 4 → j ≠ 5 → j ≠ 6 → j ≠ 7 → j ≠ 44 → K' j = vd_krK K0 src j := fun j h4 h5 h6 h7 h44 => by rw [eK2, vd_st_o h44, vd_st_o h7, vd_st_o h6, vd_st_o h5, vd_st_o h4]
  have E9 : K' 9 = bks9 (K 9) (fun j => K src j) 16 := by
    rw [Eo 9 (by decide) (by decide) (by decide) (by decide) (by decide), r9, i7, o43 9 (by decide), hsrc]
  have E10 : K' 10 = vd_kf K0 src 4 10 := by rw [Eo 10 (by decide) (by decide) (by decide) (by decide) (by decide), r10]
  have E11 : K' 11 = vd_kf K0 src 4 11 := by rw [Eo 11 (by decide) (by decide) (by decide) (by decide) (by decide), r11]
  have E45 : K' 45 = vd_kf K0 src 4 45 := by rw [Eo 45 (by decide) (by decide) (by decide) (by decide) (by decide), r45]
  have E12 : K' 12 = vd_krK K0 src 12 := Eo 12 (by decide) (by decide) (by decide) (by decide) (by decide)
  have E13 : K' 13 = vd_krK K0 src 13 := Eo 13 (by decide) (by decide) (by decide) (by decide) (by decide)
  have E46 : K' 46 = vd_krK K0 src 46 := Eo 46 (by decide) (by decide) (by decide) (by decide) (by decide)
  rw [← E12] at k4 k5
  rw [← E13] at k6
  rw [← E46] at k3
  rw [← E10, ← E45] at i1 i4
  rw [← E45] at i2 i3 i8
  rw [← E10] at i5
  rw [← E11] at i6
  rw [o43 45 (by decide)] at i2 i3 i5 i8
  rw [o43 10 (by decide)] at i5
  rw [o43 11 (by decide)] at i6
  rw [hsrc] at i4
  generalize vd_kf K0 src 4 = G at *
  clear eK eK2 Eo E10 E11 E45 E12 E13 E46 r9 r10 r11 r45 r43 ro ekr err hn0 ht o43 hK0 i7 f46 f12 f13
  have n46 : K 46 0 ≤ K' 46 0 ∧ K' 46 0 ≤ K 46 0 + 1 ∧ rr ≤ K' 46 0 := by
    rw [k3]
    split
    · omega
    · omega
  have k4' : ∀ q, q < 4 → K' 12 (rr * 4 + q) = G 8 q := fun q hq => by rw [k4 q hq, Nat.zero_add]
  -- rows of roots other than rr are old
  have hold : ∀ t q, 1 ≤ t → t ≤ K' 46 0 → q < 4 → t ≠ rr → K' 12 (t * 4 + q) = K 12 (t * 4 + q) ∧ t ≤ K 46 0 := by
    intro t q h1 h2 h3 h4
    have h5 : t ≤ K 46 0 := by
      rw [k3] at h2
      by_cases hc : rr ≤ K 46 0
      · rw [if_pos hc] at h2
        exact h2
      · rw [if_neg hc] at h2
        omega
    exact ⟨k5 _ (by omega), h5⟩
  have hR' : rl_R (K 43 0 + 1) (K' 45 0) (K' 46 0) (K' 4) (K' 10) (K' 12) := by
    refine ⟨by omega, by omega, i1.1, fun q hq => ?_, fun c h1 h2 => ?_, fun c hc => ?_, fun r q hr hq => ?_, i1.2.1, i1.2.2, fun t u h1 h2 h3 h4 he => ?_⟩
    · rw [k5 q (by omega)]
      exact R4 q hq
    · rw [E4]
      show 1 ≤ (if c = K 43 0 + 1 then rr else K 4 c) ∧ (if c = K 43 0 + 1 then rr else K 4 c) ≤ K' 46 0
      by_cases e : c = K 43 0 + 1
      · rw [if_pos e]
        exact ⟨k1, n46.2.2⟩
      · rw [if_neg e]
        have := R5 c h1 (by omega)
        omega
    · rw [E4]
      show (if c = K 43 0 + 1 then rr else K 4 c) = 0
      rw [if_neg (by omega)]
      exact R6 c (by omega)
    · by_cases e : r = rr
      · rw [e, k4' q hq]
        exact (i4 q hq).1
      · by_cases e0 : r = 0
        · rw [e0, Nat.zero_mul, Nat.zero_add, k5 q (by omega), R4 q hq]
          exact Nat.zero_le _
        · obtain ⟨g1, g2⟩ := hold r q (by omega) hr hq e
          rw [g1]
          exact Nat.le_trans (R7 r q g2 hq) i2
    · by_cases e : t = rr
      · by_cases e2 : u = rr
        · omega
        · have g := (hold u 0 h3 h4 (by omega) e2).2
          have hr := k7 u h3 g (fun q hq => by rw [← (hold u q h3 h4 hq e2).1, ← he q hq, e, k4 q hq])
          rw [e] at he ⊢
          exact R10 rr u k1 hr h3 g (fun q hq => by rw [← k5 _ (by omega), ← k5 _ (by omega)]; exact he q hq)
      · by_cases e2 : u = rr
        · have g := (hold t 0 h1 h2 (by omega) e).2
          have hr := k7 t h1 g (fun q hq => by rw [← (hold t q h1 h2 hq e).1, he q hq, e2, k4 q hq])
          rw [e2] at he ⊢
          exact R10 t rr h1 g k1 hr (fun q hq => by rw [← k5 _ (by omega), ← k5 _ (by omega)]; exact he q hq)
        · exact R10 t u h1 (hold t 0 h1 h2 (by omega) e).2 h3 (hold u 0 h3 h4 (by omega) e2).2 (fun q hq => by rw [← (hold t q h1 h2 hq e).1, ← (hold u q h3 h4 hq e2).1]; exact he q hq)
  -- folders' numbers of old commits, and of the new one
  have fnO : ∀ c p, c ≠ K 43 0 + 1 → p < 4 → K' 12 (K' 4 c * 4 + p) = K 12 (K 4 c * 4 + p) := by
    intro c p hc hp
    rw [E4]
    show K' 12 ((if c = K 43 0 + 1 then rr else K 4 c) * 4 + p) = _
    rw [if_neg hc]
    have h4 : K 4 c ≤ K 46 0 := by
      by_cases h : c = 0 ∨ K 43 0 < c
      · rw [R6 c h]
        exact Nat.zero_le _
      · exact (R5 c (by omega) (by omega)).2
    exact k5 _ (by omega)
  have fnN : ∀ p, p < 4 → K' 12 (K' 4 (K 43 0 + 1) * 4 + p) = G 8 p := by
    intro p hp
    rw [E4]
    show K' 12 ((if K 43 0 + 1 = K 43 0 + 1 then rr else _) * 4 + p) = _
    rw [if_pos rfl]
    exact k4' p hp
  have fnL : ∀ c p, p < 4 → K 12 (K 4 c * 4 + p) ≤ K 45 0 := by
    intro c p hp
    by_cases h : c = 0 ∨ K 43 0 < c
    · rw [R6 c h, Nat.zero_mul, Nat.zero_add, R4 p hp]
      exact Nat.zero_le _
    · exact R7 _ _ (R5 c (by omega) (by omega)).2 hp
  have bitN : ∀ c, (K' 44 0).testBit c = true ↔ ((K 44 0).testBit c = true ∨ c = K 43 0 + 1) := by
    intro c
    rw [E44, Nat.testBit_or, Nat.testBit_two_pow, Bool.or_eq_true, decide_eq_true_eq]
    exact or_congr Iff.rfl ⟨fun e => e.symm, fun e => e.symm⟩
  refine ⟨E43, E44, E5, E6, E7, hR', fun c f hc hf => ?_, fun r h1 h2 => ?_, fun r h1 h2 => ?_, E9⟩
  · unfold vd_cnt
    by_cases e : c = K 43 0 + 1
    · rw [if_pos e, e, fnN _ (by omega), (i4 (f / 4) (by omega)).2 (f % 4) (by omega)]
      congr 1
      omega
    · rw [if_neg e, fnO c _ e (by omega)]
      have := fnL c (f / 4) (by omega)
      exact i5 _ (by omega)
  · rw [i6 r h1]
    constructor
    · rintro (h | ⟨p, hp, h⟩)
      · by_cases hl : r ≤ K 45 0
        · obtain ⟨c, g1, g2, g3, p, g4, g5⟩ := (hF r h1 hl).mp h
          have := hS c g1 g2 g3
          exact ⟨c, g1, g2, (bitN c).mpr (Or.inl g3), p, g4, by rw [fnO c p (by omega) g4]; exact g5⟩
        · obtain ⟨p, hp, h⟩ := i8 r (by omega) h2
          exact ⟨K 43 0 + 1, by omega, by omega, (bitN _).mpr (Or.inr rfl), p, hp, by rw [fnN p hp]; exact h.symm⟩
      · exact ⟨K 43 0 + 1, by omega, by omega, (bitN _).mpr (Or.inr rfl), p, hp, by rw [fnN p hp]; exact h.symm⟩
    · rintro ⟨c, g1, g2, g3, p, g4, g5⟩
      by_cases e : c = K 43 0 + 1
      · rw [e, fnN p g4] at g5
        exact Or.inr ⟨p, g4, g5.symm⟩
      · rw [fnO c p e g4] at g5
        have hl := fnL c p g4
        refine Or.inl ((hF r h1 (by omega)).mpr ⟨c, g1, g2, ?_, p, g4, g5⟩)
        rcases (bitN c).mp g3 with h | h
        · exact h
        · exact absurd h e
  · rw [k6]
    show (if r = rr then 1 else K 13 r) ≠ 0 ↔ _
    have e4 : ∀ c, c ≠ K 43 0 + 1 → K' 4 c = K 4 c := fun c hc => by rw [E4]; exact if_neg hc
    have e4n : K' 4 (K 43 0 + 1) = rr := by rw [E4]; exact if_pos rfl
    by_cases e : r = rr
    · rw [if_pos e]
      exact ⟨fun _ => ⟨K 43 0 + 1, by omega, by omega, (bitN _).mpr (Or.inr rfl), by rw [e4n, e]⟩, fun _ => by decide⟩
    · rw [if_neg e]
      have hl : r ≤ K 46 0 := (hold r 0 h1 h2 (by omega) e).2
      rw [hG r h1 hl]
      constructor
      · rintro ⟨c, g1, g2, g3, g4⟩
        have := hS c g1 g2 g3
        exact ⟨c, g1, g2, (bitN c).mpr (Or.inl g3), by rw [e4 c (by omega)]; exact g4⟩
      · rintro ⟨c, g1, g2, g3, g4⟩
        by_cases e2 : c = K 43 0 + 1
        · rw [e2, e4n] at g4
          exact absurd g4.symm e
        · rw [e4 c e2] at g4
          refine ⟨c, g1, g2, ?_, g4⟩
          rcases (bitN c).mp g3 with h | h
          · exact h
          · exact absurd h e2
