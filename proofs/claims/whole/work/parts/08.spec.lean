/-! WHAT THE METHODS MEAN, in words of K -/
theorem vd_ltI {x : Int32} {b : Nat} (hb : b < 2 ^ 31) : x < nI b ↔ x.toInt < (b : Int) := by rw [Int32.lt_iff_toInt_lt, nI_toInt hb]
theorem vd_leI {x : Int32} {b : Nat} (hb : b < 2 ^ 31) : x ≤ nI b ↔ x.toInt ≤ (b : Int) := by rw [Int32.le_iff_toInt_le, nI_toInt hb]
theorem vd_geI {x : Int32} {b : Nat} (hb : b < 2 ^ 31) : nI b ≤ x ↔ (b : Int) ≤ x.toInt := by rw [Int32.le_iff_toInt_le, nI_toInt hb]
theorem vd_gtI {x : Int32} {b : Nat} (hb : b < 2 ^ 31) : nI b < x ↔ (b : Int) < x.toInt := by rw [Int32.lt_iff_toInt_lt, nI_toInt hb]
theorem vd_ltZ {x : Int32} : x < 0 ↔ x.toInt < 0 := by rw [← nI_0, vd_ltI (by decide)]; rfl
theorem vd_ofI {x : Int32} {lo hi : Nat} (h1 : (lo : Int) ≤ x.toInt) (h2 : x.toInt ≤ (hi : Int)) : ∃ c : Nat, lo ≤ c ∧ c ≤ hi ∧ x = nI c := by
  obtain ⟨j, hj, rfl⟩ := nI_of (x := x) (fun h => by have := vd_ltZ.mp h; omega)
  rw [nI_toInt hj] at h1 h2
  exact ⟨j, by omega, by omega, rfl⟩
def vd_in (lo hi : Nat) (x : Int32) : Bool := decide ((lo : Int) ≤ x.toInt ∧ x.toInt ≤ (hi : Int))
theorem vd_in_t {lo hi : Nat} {x : Int32} (h : vd_in lo hi x = true) : ∃ c : Nat, lo ≤ c ∧ c ≤ hi ∧ x = nI c := vd_ofI (of_decide_eq_true h).1 (of_decide_eq_true h).2
theorem vd_in_y {lo hi : Nat} {x : Int32} (h1 : (lo : Int) ≤ x.toInt) (h2 : x.toInt ≤ (hi : Int)) : vd_in lo hi x = true := decide_eq_true ⟨h1, h2⟩
theorem vd_in_l {lo hi : Nat} {x : Int32} (h : x.toInt < (lo : Int)) : vd_in lo hi x = false := decide_eq_false (fun q => by omega)
theorem vd_in_h {lo hi : Nat} {x : Int32} (h : (hi : Int) < x.toInt) : vd_in lo hi x = false := decide_eq_false (fun q => by omega)
theorem vd_in_n {lo hi c : Nat} (h1 : lo ≤ c) (h2 : c ≤ hi) (hh : hi < 2 ^ 31) : vd_in lo hi (nI c) = true := by
  have e : (nI c).toInt = (c : Int) := nI_toInt (by omega)
  exact vd_in_y (by omega) (by omega)
theorem vd_bn {a b : Nat} (h : a ≠ b) : (a != b) = true := by simp [h]
theorem vd_be {a b : Nat} (h : a = b) : (a != b) = false := by simp [h]
theorem vd_bne {a : Nat} (h : a ≠ 0) : (a != 0) = true := by simp [h]
/-- how many below n -/
def vd_cn (P : Nat → Bool) : Nat → Nat
  | 0 => 0
  | n + 1 => vd_cn P n + (P n).toNat
theorem vd_cn_le (P : Nat → Bool) : ∀ n, vd_cn P n ≤ n
  | 0 => Nat.le_refl 0
  | n + 1 => by
    have h := vd_cn_le P n
    have h2 : (P n).toNat ≤ 1 := by cases P n <;> decide
    show vd_cn P n + (P n).toNat ≤ n + 1
    omega
theorem vd_cn_t {P : Nat → Bool} {n a : Nat} (ha : a = vd_cn P n) (h : P n = true) : a + 1 = vd_cn P (n + 1) := by
  show a + 1 = vd_cn P n + (P n).toNat
  rw [h, ha]
  rfl
theorem vd_cn_f {P : Nat → Bool} {n a : Nat} (ha : a = vd_cn P n) (h : P n = false) : a = vd_cn P (n + 1) := by
  show a = vd_cn P n + (P n).toNat
  rw [h, ha]
  rfl
/-- the bits below n -/
def vd_mk (P : Nat → Bool) : Nat → Nat
  | 0 => 0
  | n + 1 => vd_mk P n ||| (if P n = true then 2 ^ n else 0)
theorem vd_mk_t {P : Nat → Bool} {n a : Nat} (ha : a = vd_mk P n) (h : P n = true) : a ||| 2 ^ n = vd_mk P (n + 1) := by
  show a ||| 2 ^ n = vd_mk P n ||| (if P n = true then 2 ^ n else 0)
  rw [if_pos h, ha]
theorem vd_mk_f {P : Nat → Bool} {n a : Nat} (ha : a = vd_mk P n) (h : P n = false) : a = vd_mk P (n + 1) := by
  show a = vd_mk P n ||| (if P n = true then 2 ^ n else 0)
  rw [if_neg (by rw [h]; decide), Nat.or_zero, ha]
theorem vd_mk_lt (P : Nat → Bool) : ∀ n, vd_mk P n < 2 ^ n
  | 0 => Nat.zero_lt_one
  | n + 1 => by
    have h := vd_mk_lt P n
    have h1 : vd_mk P n < 2 ^ (n + 1) := Nat.lt_of_lt_of_le h (Nat.pow_le_pow_right (by decide) (Nat.le_succ n))
    have h2 : (if P n = true then 2 ^ n else 0) < 2 ^ (n + 1) := by
      split
      · exact Nat.pow_lt_pow_right (by decide) (Nat.lt_succ_self n)
      · exact Nat.pow_pos (by decide)
    exact Nat.or_lt_two_pow h1 h2
/-- two rows are alike below n -/
def vd_eqn (a b : Nat → Nat) : Nat → Bool
  | 0 => true
  | n + 1 => vd_eqn a b n && (a n == b n)
theorem vd_eqn_i {a b : Nat → Nat} : ∀ {n : Nat}, vd_eqn a b n = true ↔ ∀ f, f < n → a f = b f
  | 0 => ⟨fun _ f hf => absurd hf (by omega), fun _ => rfl⟩
  | n + 1 => by
    show (vd_eqn a b n && (a n == b n)) = true ↔ _
    rw [Bool.and_eq_true, vd_eqn_i (n := n), beq_iff_eq]
    constructor
    · rintro ⟨h1, h2⟩ f hf
      by_cases e : f = n
      · subst e
        exact h2
      · exact h1 f (by omega)
    · intro h
      exact ⟨fun f hf => h f (by omega), h n (by omega)⟩
theorem vd_eqn_t {a b : Nat → Nat} {n : Nat} (h : ∀ f, f < n → a f = b f) : vd_eqn a b n = true := vd_eqn_i.mpr h
theorem vd_eqn_f {a b : Nat → Nat} {n : Nat} (h : ¬ ∀ f, f < n → a f = b f) : vd_eqn a b n = false := by
  cases hb : vd_eqn a b n with
  | false => rfl
  | true => exact absurd (vd_eqn_i.mp hb) h
theorem vd_eqn_c {a b a' b' : Nat → Nat} {n n' : Nat} (h : (∀ f, f < n → a f = b f) ↔ ∀ f, f < n' → a' f = b' f) : vd_eqn a b n = vd_eqn a' b' n' := by
  rw [Bool.eq_iff_iff, vd_eqn_i, vd_eqn_i]
  exact h
def vd_here (K : KT) : Nat := K 3 (K 40 0)
def vd_cnt (K : KT) (c f : Nat) : Nat := K 10 (K 12 (K 4 c * 4 + f / 4) * 4 + f % 4)
theorem vd_cnt_of {K K' : KT} (h1 : K' 4 = K 4) (h2 : K' 10 = K 10) (h3 : K' 12 = K 12) (c f : Nat) : vd_cnt K' c f = vd_cnt K c f := by
  unfold vd_cnt
  rw [h1, h2, h3]
def vd_un (K : KT) : Nat := vd_cn (fun f => K 0 f != K 1 f) 16
/-- array j is as HERE -/
def vd_ash (K : KT) (j : Nat) : Bool := vd_eqn (fun f => K j f) (fun f => vd_cnt K (vd_here K) f) 16
def vd_tidy (K : KT) : Bool := (vd_un K == 0) && vd_ash K 1
/-- HEAD at c, index and work as c -/
def vd_mv (K : KT) (c : Nat) : KT := vd_fl (vd_fl (vd_st K 3 (K 40 0) c) 1 0 16 (fun f => vd_cnt K c f)) 0 0 16 (fun f => vd_cnt K c f)
def vd_clash (K : KT) (o b f : Nat) : Bool := (vd_cnt K (vd_here K) f != vd_cnt K o f) && ((vd_cnt K (vd_here K) f != vd_cnt K b f) && (vd_cnt K o f != vd_cnt K b f))
def vd_mixv (K : KT) (o b f : Nat) : Nat := if vd_cnt K (vd_here K) f = vd_cnt K b f then vd_cnt K o f else vd_cnt K (vd_here K) f
def vd_mix (K : KT) (o b : Nat) : KT := vd_fl K 2 0 16 (fun f => vd_mixv K o b f)
def vd_hol (K : KT) (x : Int32) : Bool := vd_in 1 30 x && (K 44 0).testBit x.toNatClampNeg
theorem vd_hol_t {K : KT} {x : Int32} (h : vd_hol K x = true) : ∃ c : Nat, 1 ≤ c ∧ c ≤ 30 ∧ x = nI c ∧ (K 44 0).testBit c = true := by
  unfold vd_hol at h
  rw [Bool.and_eq_true] at h
  obtain ⟨c, h1, h2, rfl⟩ := vd_in_t h.1
  rw [nI_clamp (by omega)] at h
  exact ⟨c, h1, h2, rfl, h.2⟩
/-- the greatest number below n + 1 and above 0 that has P; 0 if there is none -/
def vd_topP (P : Nat → Bool) : Nat → Nat
  | 0 => 0
  | n + 1 => if P (n + 1) = true then n + 1 else vd_topP P n
abbrev vd_top (x : Nat) (n : Nat) : Nat := vd_topP (fun k => x.testBit k) n
theorem vd_topP_s (P : Nat → Bool) (n : Nat) : vd_topP P (n + 1) = if P (n + 1) = true then n + 1 else vd_topP P n := rfl
theorem vd_top_s (x n : Nat) : vd_top x (n + 1) = if x.testBit (n + 1) = true then n + 1 else vd_top x n := rfl
theorem vd_topP_le (P : Nat → Bool) : ∀ n, vd_topP P n ≤ n
  | 0 => Nat.le_refl 0
  | n + 1 => by
    rw [vd_topP_s]
    split
    · exact Nat.le_refl _
    · exact Nat.le_succ_of_le (vd_topP_le P n)
theorem vd_bit0 {x y : Nat} : x &&& 2 ^ y = 0 ↔ x.testBit y = false := by
  constructor
  · intro h
    have h1 : (x &&& 2 ^ y).testBit y = (0 : Nat).testBit y := by rw [h]
    rw [Nat.testBit_and, Nat.testBit_two_pow_self, Bool.and_true, Nat.zero_testBit] at h1
    exact h1
  · intro h
    apply Nat.eq_of_testBit_eq
    intro i
    rw [Nat.testBit_and, Nat.zero_testBit, Nat.testBit_two_pow]
    by_cases hi : y = i
    · subst hi
      rw [h]
      rfl
    · rw [decide_eq_false hi, Bool.and_false]
theorem vd_bit1 {x y : Nat} : x &&& 2 ^ y ≠ 0 ↔ x.testBit y = true := by
  rw [ne_eq, vd_bit0]
  cases x.testBit y <;> simp
theorem vd_andle {x y : Nat} : x &&& 2 ^ y ≤ x := Nat.and_le_left
theorem vd_pow31 {y : Nat} (h : y < 31) : 2 ^ y < 2147483648 := Nat.pow_lt_pow_right (n := 31) (by decide) h
theorem vd_or31 {x y : Nat} (hx : x ≤ 2147483647) (hy : y ≤ 2147483647) : x ||| y ≤ 2147483647 :=
  Nat.le_of_lt_succ (Nat.or_lt_two_pow (n := 31) (Nat.lt_succ_of_le hx) (Nat.lt_succ_of_le hy))
theorem vd_and31 {x y : Nat} (hx : x ≤ 2147483647) : x &&& y ≤ 2147483647 := Nat.le_trans Nat.and_le_left hx
def vd_there (K : KT) (x : Int32) : Bool := vd_in 0 5 x && (K 3 x.toNatClampNeg != 0)
def vd_rsz (K : KT) (ss la : Nat) : Nat := vd_cn (fun r => K ss (r + 1) != 0) (K la 0)
def vd_alk (K : KT) (nn src r f : Nat) : Bool := vd_eqn (fun q => K nn (r * 4 + q)) (fun q => K src (f + q)) 4
/-- the first place from r on, of n, that has P; r + n if there is none -/
def vd_fs (P : Nat → Bool) : Nat → Nat → Nat
  | r, 0 => r
  | r, n + 1 => if P r = true then r else vd_fs P (r + 1) n
theorem vd_fs_s (P : Nat → Bool) (r n : Nat) : vd_fs P r (n + 1) = if P r = true then r else vd_fs P (r + 1) n := rfl
theorem vd_fs_le (P : Nat → Bool) : ∀ n r, vd_fs P r n ≤ r + n
  | 0, r => Nat.le_refl r
  | n + 1, r => by
    rw [vd_fs_s]
    split
    · omega
    · have h := vd_fs_le P n (r + 1)
      omega
theorem vd_fs_ge (P : Nat → Bool) : ∀ n r, r ≤ vd_fs P r n
  | 0, r => Nat.le_refl r
  | n + 1, r => by
    rw [vd_fs_s]
    split
    · omega
    · have h := vd_fs_ge P n (r + 1)
      omega
def vd_row (K : KT) (nn la src f : Nat) : Nat := vd_fs (fun r => vd_alk K nn src r f) 1 (K la 0)
theorem vd_row_le (K : KT) (nn la src f : Nat) : vd_row K nn la src f ≤ K la 0 + 1 := by
  have h := vd_fs_le (fun r => vd_alk K nn src r f) (K la 0) 1
  unfold vd_row
  omega
def vd_keep (K : KT) (nn ss la src f : Nat) : KT := vd_st (if K la 0 < vd_row K nn la src f then vd_st (vd_fl K nn (vd_row K nn la src f * 4) 4 (fun b => K src (f + b))) la 0 (vd_row K nn la src f) else K) ss (vd_row K nn la src f) 1
/-- the blob of x is stored -/
def vd_bk (K : KT) (x : Nat) : KT := if x = 0 then K else vd_st K 9 (x / 64) (K 9 (x / 64) ||| 2 ^ (x % 64))
theorem vd_bk_o (K : KT) (x : Nat) {a : Nat} (h : a ≠ 9) : vd_bk K x a = K a := by
  unfold vd_bk
  split
  · rfl
  · exact vd_st_o h
/-- the blobs of n places of array src from f on -/
def vd_bks (K : KT) (src f : Nat) : Nat → KT
  | 0 => K
  | n + 1 => vd_bk (vd_bks K src f n) (K src (f + n))
theorem vd_bks_o (K : KT) (src f : Nat) {a : Nat} (h : a ≠ 9) : ∀ n, vd_bks K src f n a = K a
  | 0 => rfl
  | n + 1 => by
    show vd_bk (vd_bks K src f n) _ a = K a
    rw [vd_bk_o _ _ h, vd_bks_o K src f h n]
def vd_por (K : KT) (src f : Nat) : Nat → Nat
  | 0 => 0
  | n + 1 => vd_por K src f n ||| K src (f + n)
/-- keepFolder: the state behind it, the number that it answers -/
def vd_kfK (K : KT) (src f : Nat) : KT := if vd_por K src f 4 = 0 then vd_bks K src f 4 else vd_keep (vd_bks K src f 4) 10 11 45 src f
def vd_kfr (K : KT) (src f : Nat) : Nat := if vd_por K src f 4 = 0 then 0 else vd_row (vd_bks K src f 4) 10 45 src f
def vd_kf (K : KT) (src : Nat) : Nat → KT
  | 0 => K
  | n + 1 => vd_st (vd_kfK (vd_kf K src n) src (n * 4)) 8 n (vd_kfr (vd_kf K src n) src (n * 4))
def vd_krK (K : KT) (src : Nat) : KT := vd_keep (vd_kf K src 4) 12 13 46 8 0
def vd_krr (K : KT) (src : Nat) : Nat := vd_row (vd_kf K src 4) 12 46 8 0
/-- make: the state behind it -/
def vd_mkK (K : KT) (src a b : Nat) : KT :=
  let n := K 43 0 + 1
  let K1 := vd_st (vd_krK (vd_st K 43 0 n) src) 4 n (vd_krr (vd_st K 43 0 n) src)
  let K2 := vd_st (vd_st K1 5 n a) 6 n b
  vd_st (vd_st K2 7 n (2 ^ n ||| K2 7 a ||| K2 7 b)) 44 0 (K2 44 0 ||| 2 ^ n)
/-- Store.keepAgain -/
def vd_ka1 (K : KT) (r : Nat) : Nat → KT
  | 0 => K
  | n + 1 => vd_bk (vd_ka1 K r n) (K 10 (r * 4 + n))
def vd_ka (K : KT) (r : Nat) : Nat → KT
  | 0 => vd_st K 13 r 1
  | n + 1 => vd_ka1 (vd_st (vd_ka K r n) 11 (K 12 (r * 4 + n)) 1) (K 12 (r * 4 + n)) 4
def vd_ko (K : KT) : Nat → KT
  | 0 => K
  | n + 1 => if (K 44 0).testBit (n + 1) = true then vd_ka (vd_ko K n) (K 4 (n + 1)) 4 else vd_ko K n
theorem vd_ko_s (K : KT) (n : Nat) : vd_ko K (n + 1) = if (K 44 0).testBit (n + 1) = true then vd_ka (vd_ko K n) (K 4 (n + 1)) 4 else vd_ko K n := rfl
theorem vd_kf_s (K : KT) (src n : Nat) : vd_kf K src (n + 1) = vd_st (vd_kfK (vd_kf K src n) src (n * 4)) 8 n (vd_kfr (vd_kf K src n) src (n * 4)) := rfl
theorem vd_ka_s (K : KT) (r n : Nat) : vd_ka K r (n + 1) = vd_ka1 (vd_st (vd_ka K r n) 11 (K 12 (r * 4 + n)) 1) (K 12 (r * 4 + n)) 4 := rfl
def vd_koK (K : KT) (needed : Nat) : KT := vd_ko (vd_st (vd_fl (vd_fl (vd_fl K 9 0 157 (fun _ => 0)) 11 0 121 (fun _ => 0)) 13 0 31 (fun _ => 0)) 44 0 needed) (K 43 0)
theorem vd_or14 {x y : Nat} (hx : x ≤ 16383) (hy : y ≤ 9999) : x ||| y ≤ 16383 :=
  Nat.le_of_lt_succ (Nat.or_lt_two_pow (n := 14) (Nat.lt_succ_of_le hx) (by omega))
theorem vd_keep_la {K : KT} {nn ss la src f : Nat} (h1 : la ≠ ss) : vd_keep K nn ss la src f la 0 ≤ K la 0 + 1 := by
  unfold vd_keep
  rw [vd_st_o h1]
  split
  · rw [vd_st_s]
    show (if 0 = 0 then _ else _) ≤ _
    rw [if_pos rfl]
    exact vd_row_le K nn la src f
  · exact Nat.le_succ _
theorem vd_kfK_45 {K : KT} {src f : Nat} : vd_kfK K src f 45 0 ≤ K 45 0 + 1 := by
  unfold vd_kfK
  split
  · rw [vd_bks_o _ _ _ (by decide)]
    exact Nat.le_succ _
  · have h := vd_keep_la (K := vd_bks K src f 4) (nn := 10) (ss := 11) (la := 45) (src := src) (f := f) (by decide)
    rw [vd_bks_o _ _ _ (a := 45) (by decide)] at h
    exact h
/-! the reference -/
def vd_hereM (K : KT) : Nat := K 18 (K 48 0)
def vd_stoM (K : KT) (x : Int32) : Bool := vd_in 1 30 x && (K 15 x.toNatClampNeg != 0)
theorem vd_stoM_t {K : KT} {x : Int32} (h : vd_stoM K x = true) : ∃ c : Nat, 1 ≤ c ∧ c ≤ 30 ∧ x = nI c ∧ K 15 c ≠ 0 := by
  unfold vd_stoM at h
  rw [Bool.and_eq_true] at h
  obtain ⟨c, h1, h2, rfl⟩ := vd_in_t h.1
  rw [nI_clamp (by omega)] at h
  exact ⟨c, h1, h2, rfl, by simpa using h.2⟩
def vd_same (K : KT) (a b : Nat) : Bool := vd_eqn (fun f => K 14 (16 * a + f)) (fun f => K 14 (16 * b + f)) 16
def vd_cp (K : KT) (a b : Nat) : KT := vd_fl K 14 (16 * b) 16 (fun f => K 14 (16 * a + f))
def vd_shw (K : KT) (c : Nat) : KT := vd_cp (vd_cp K c 32) c 31
def vd_tidyM (K : KT) : Bool := vd_same K 31 32 && vd_same K 32 (vd_hereM K)
def vd_bl (K : KT) (v : Nat) : KT := if v = 0 then K else vd_st K 20 v 1
theorem vd_bl_o (K : KT) (x : Nat) {a : Nat} (h : a ≠ 20) : vd_bl K x a = K a := by
  unfold vd_bl
  split
  · rfl
  · exact vd_st_o h
def vd_bls (K : KT) (o : Nat) : Nat → KT
  | 0 => K
  | i + 1 => vd_bl (vd_bls K o i) (K 14 (o + i))
theorem vd_bls_s (K : KT) (o i : Nat) : vd_bls K o (i + 1) = vd_bl (vd_bls K o i) (K 14 (o + i)) := rfl
theorem vd_bls_o (K : KT) (o : Nat) {a : Nat} (h : a ≠ 20) : ∀ n, vd_bls K o n a = K a
  | 0 => rfl
  | n + 1 => by
    show vd_bl (vd_bls K o n) _ a = K a
    rw [vd_bl_o _ _ h, vd_bls_o K o h n]
def vd_mkM (K : KT) (row one two : Nat) : KT :=
  let n := K 47 0 + 1
  let K1 := vd_cp (vd_st K 47 0 n) row n
  let K2 := vd_bls (vd_st (vd_st (vd_st K1 15 n 1) 16 n one) 17 n two) (16 * n) 16
  vd_st K2 18 (K2 48 0) n
def vd_clM (K : KT) : Nat := vd_cn (fun f => K 19 f != 0) 16
def vd_mk0 (K : KT) (c n : Nat) : KT := vd_fl K 21 0 n (fun k => if k = c ∧ c ≠ 0 then 1 else 0)
def vd_mk1 (K : KT) (j : Nat) : KT := if K 21 j ≠ 0 then vd_st (vd_st K 21 (K 16 j) 1) 21 (K 17 j) 1 else K
def vd_mkd : Nat → KT → KT
  | 0, K => K
  | j + 1, K => vd_mkd j (vd_mk1 K (j + 1))
theorem vd_mkd_0 (K : KT) : vd_mkd 0 K = K := rfl
theorem vd_mkd_s (j : Nat) (K : KT) : vd_mkd (j + 1) K = vd_mkd j (vd_mk1 K (j + 1)) := rfl
def vd_mar (K : KT) (c : Nat) : KT := vd_st (vd_mkd 30 (vd_mk0 K c 31)) 21 0 0
def vd_shK (K : KT) (a b : Nat) : KT := vd_mar (vd_fl (vd_mar K a) 22 0 31 (fun k => vd_mar K a 21 k)) b
def vd_shr (K : KT) (a b : Nat) : Nat := vd_topP (fun k => vd_shK K a b 21 k != 0 && vd_shK K a b 22 k != 0) 30
def vd_xcl (K : KT) (x y z f : Nat) : Bool := (K 14 (16 * x + f) != K 14 (16 * y + f)) && ((K 14 (16 * x + f) != K 14 (16 * z + f)) && (K 14 (16 * y + f) != K 14 (16 * z + f)))
def vd_xmv (K : KT) (x y z f : Nat) : Nat := if K 14 (16 * x + f) = K 14 (16 * z + f) then K 14 (16 * y + f) else K 14 (16 * x + f)
def vd_mxl (K : KT) (x y z w : Nat) : Nat → KT
  | 0 => K
  | i + 1 => if w ≠ 0 then vd_st (vd_st (vd_mxl K x y z w i) 14 (528 + i) (vd_xmv K x y z i)) 19 i (vd_xcl K x y z i).toNat else vd_st (vd_mxl K x y z w i) 14 (528 + i) (vd_xmv K x y z i)
theorem vd_mxl_s (K : KT) (x y z w i : Nat) : vd_mxl K x y z w (i + 1) = if w ≠ 0 then vd_st (vd_st (vd_mxl K x y z w i) 14 (528 + i) (vd_xmv K x y z i)) 19 i (vd_xcl K x y z i).toNat else vd_st (vd_mxl K x y z w i) 14 (528 + i) (vd_xmv K x y z i) := rfl
theorem vd_mxl_14 (K : KT) (x y z w : Nat) {b : Nat} (h : b < 528) : ∀ i, vd_mxl K x y z w i 14 b = K 14 b
  | 0 => rfl
  | i + 1 => by
    have ih := vd_mxl_14 K x y z w h i
    rw [vd_mxl_s]
    split
    · rw [vd_st_o (by decide), vd_st_s]
      show (if b = 528 + i then _ else _) = _
      rw [if_neg (by omega)]
      exact ih
    · rw [vd_st_s]
      show (if b = 528 + i then _ else _) = _
      rw [if_neg (by omega)]
      exact ih
def vd_frR (K : KT) (a : Nat) : Bool := decide (K 15 a ≠ 0 ∧ ∀ b, b < a → 1 ≤ b → ¬ (K 15 b ≠ 0 ∧ vd_same K a b = true))
def vd_alM (K : KT) (i j : Nat) : Bool := vd_eqn (fun q => K 14 (i + q)) (fun q => K 14 (j + q)) 4
def vd_orM (K : KT) (i : Nat) : Nat := K 14 i ||| K 14 (i + 1) ||| K 14 (i + 2) ||| K 14 (i + 3)
def vd_frF (K : KT) (t : Nat) : Bool := decide (K 15 ((16 + 4 * t) / 16) ≠ 0 ∧ vd_orM K (16 + 4 * t) ≠ 0 ∧ ∀ u, u < t → ¬ (K 15 ((16 + 4 * u) / 16) ≠ 0 ∧ vd_alM K (16 + 4 * t) (16 + 4 * u) = true))
def vd_c0 (K : KT) : Nat := vd_cn (fun i => K 20 (i + 1) != 0) 9999
def vd_c1 (K : KT) : Nat := vd_cn (fun t => vd_frF K t) 120
def vd_c2 (K : KT) : Nat := vd_cn (fun i => vd_frR K (i + 1)) 30
def vd_c3 (K : KT) : Nat := vd_cn (fun i => K 15 (i + 1) != 0) 30
def vd_chg (K : KT) : Nat := vd_cn (fun f => K 14 (496 + f) != K 14 (512 + f)) 16
theorem vd_kfK_46 {K : KT} {src f : Nat} : vd_kfK K src f 46 = K 46 := by
  unfold vd_kfK
  split
  · rw [vd_bks_o _ _ _ (by decide)]
  · unfold vd_keep
    rw [vd_st_o (by decide)]
    split
    · rw [vd_st_o (by decide), vd_fl_o (by decide), vd_bks_o _ _ _ (by decide)]
    · rw [vd_bks_o _ _ _ (by decide)]
theorem vd_ka1_o (K : KT) (r : Nat) {a : Nat} (h : a ≠ 9) : ∀ n, vd_ka1 K r n a = K a
  | 0 => rfl
  | n + 1 => by
    show vd_bk (vd_ka1 K r n) _ a = K a
    rw [vd_bk_o _ _ h, vd_ka1_o K r h n]
def vd_f2 (K : KT) (g : Nat → Nat) (i : Nat) : KT := vd_fl (vd_fl K 1 0 i g) 0 0 i g
theorem vd_f2_0 {K : KT} {g : Nat → Nat} : vd_f2 K g 0 = K := by
  unfold vd_f2
  rw [vd_fl_0, vd_fl_0]
theorem vd_f2_s {K Kl Ka Kb : KT} {g : Nat → Nat} {i x y : Nat} (hk : Kl = vd_f2 K g i) (e1 : Ka = vd_st Kl 1 i x) (e2 : Kb = vd_st Ka 0 i y) (hx : x = g i) (hy : y = g i) : Kb = vd_f2 K g (i + 1) := by
  subst e2 e1 hk hx hy
  unfold vd_f2
  have s1 := vd_fl_s (K := K) (j := 1) (o := 0) (n := i) (g := g)
  have s0 := vd_fl_s (K := vd_fl K 1 0 (i + 1) g) (j := 0) (o := 0) (n := i) (g := g)
  rw [← s0, ← s1]
  rw [Nat.zero_add]
  funext a
  by_cases h0 : a = 0
  · subst h0
    rw [vd_st_s, vd_st_s, vd_st_o (by decide), vd_fl_i, vd_fl_i, vd_st_o (by decide)]
  · rw [vd_st_o h0, vd_st_o h0, vd_fl_o h0]
    by_cases h1 : a = 1
    · subst h1
      rw [vd_st_s, vd_st_s, vd_fl_o (by decide)]
    · rw [vd_st_o h1, vd_st_o h1, vd_fl_o h0]
theorem vd_keep_o {K : KT} {nn ss la src f a : Nat} (h1 : a ≠ nn) (h2 : a ≠ ss) (h3 : a ≠ la) : vd_keep K nn ss la src f a = K a := by
  unfold vd_keep
  rw [vd_st_o h2]
  split
  · rw [vd_st_o h3, vd_fl_o h1]
  · rfl
theorem vd_kfK_o {K : KT} {src f a : Nat} (h9 : a ≠ 9) (h10 : a ≠ 10) (h11 : a ≠ 11) (h45 : a ≠ 45) : vd_kfK K src f a = K a := by
  unfold vd_kfK
  split
  · rw [vd_bks_o _ _ _ h9]
  · rw [vd_keep_o h10 h11 h45, vd_bks_o _ _ _ h9]
theorem vd_kf_o {K : KT} {src a : Nat} (h8 : a ≠ 8) (h9 : a ≠ 9) (h10 : a ≠ 10) (h11 : a ≠ 11) (h45 : a ≠ 45) : ∀ n, vd_kf K src n a = K a
  | 0 => rfl
  | n + 1 => by
    rw [vd_kf_s]
    rw [vd_st_o h8, vd_kfK_o h9 h10 h11 h45, vd_kf_o h8 h9 h10 h11 h45 n]
theorem vd_krK_o {K : KT} {src a : Nat} (h8 : a ≠ 8) (h9 : a ≠ 9) (h10 : a ≠ 10) (h11 : a ≠ 11) (h12 : a ≠ 12) (h13 : a ≠ 13) (h45 : a ≠ 45) (h46 : a ≠ 46) : vd_krK K src a = K a := by
  unfold vd_krK
  rw [vd_keep_o h12 h13 h46, vd_kf_o h8 h9 h10 h11 h45]
theorem vd_krK_43 {K : KT} {src : Nat} : vd_krK K src 43 = K 43 := vd_krK_o (by decide) (by decide) (by decide) (by decide) (by decide) (by decide) (by decide) (by decide)
theorem vd_ka_o (K : KT) (r : Nat) {a : Nat} (h9 : a ≠ 9) (h11 : a ≠ 11) (h13 : a ≠ 13) : ∀ {n}, vd_ka K r n a = K a
  | 0 => vd_st_o h13
  | n + 1 => by
    rw [vd_ka_s]
    rw [vd_ka1_o _ _ h9, vd_st_o h11, vd_ka_o K r h9 h11 h13]
theorem vd_hol_b {K : KT} {c : Nat} (h : vd_hol K (nI c) = true) (h1 : 1 ≤ c) (h2 : c ≤ 30) : (K 44 0).testBit c = true := by
  unfold vd_hol at h
  rw [Bool.and_eq_true, nI_clamp (by omega)] at h
  exact h.2
theorem vd_hol_nb {K : KT} {c : Nat} (h : vd_hol K (nI c) = false) (h1 : 1 ≤ c) (h2 : c ≤ 30) : (K 44 0).testBit c = false := by
  unfold vd_hol at h
  rw [vd_in_n h1 h2 (by decide), Bool.true_and, nI_clamp (by omega)] at h
  exact h
/-- how many bits of x below n are set -/
def vd_pc (n x : Nat) : Nat := vd_cn (fun i => x.testBit i) n
def vd_bsz (K : KT) : Nat → Nat
  | 0 => 0
  | n + 1 => vd_bsz K n + vd_pc 64 (K 9 n)
theorem vd_bsz_le (K : KT) : ∀ n, vd_bsz K n ≤ 64 * n
  | 0 => Nat.le_refl 0
  | n + 1 => by
    have h1 := vd_bsz_le K n
    have h2 : vd_pc 64 (K 9 n) ≤ 64 := vd_cn_le _ _
    show vd_bsz K n + vd_pc 64 (K 9 n) ≤ 64 * (n + 1)
    omega
def vd_size (K : KT) : Nat := vd_bsz K 157 + vd_rsz K 11 45 + vd_rsz K 13 46 + vd_pc 32 (K 44 0)
def vd_clr (c f : Nat) : Nat := c &&& (65535 ^^^ 2 ^ f)
theorem vd_clr_le {c f : Nat} (h : c ≤ 65535) : vd_clr c f ≤ 65535 := Nat.le_trans Nat.and_le_left h
theorem vd_clrI {c f : Nat} (hc : c ≤ 65535) (hf : f < 16) : nI c &&& (nI (2 ^ f) ^^^ (-1 : Int32)) = nI (vd_clr c f) := by
  apply Int32.toBitVec_inj.1
  show BitVec.ofNat 32 c &&& (BitVec.ofNat 32 (2 ^ f) ^^^ BitVec.allOnes 32) = BitVec.ofNat 32 (vd_clr c f)
  apply BitVec.eq_of_getLsbD_eq
  intro i hi
  have hb : i ≥ 16 → c.testBit i = false := fun h => Nat.testBit_lt_two_pow (Nat.lt_of_lt_of_le (show c < 2 ^ 16 by omega) (Nat.pow_le_pow_right (by decide) h))
  have h6 : (65535 : Nat).testBit i = decide (i < 16) := Nat.testBit_two_pow_sub_one 16 i
  simp only [BitVec.getLsbD_and, BitVec.getLsbD_xor, BitVec.getLsbD_ofNat, BitVec.getLsbD_allOnes, vd_clr, Nat.testBit_and, Nat.testBit_xor, h6, hi, decide_true, Bool.true_and]
  by_cases h : i < 16
  · simp [h]
  · rw [hb (by omega)]
    simp
theorem vd_mkK_o {K : KT} {src a b j : Nat} (h4 : j ≠ 4) (h5 : j ≠ 5) (h6 : j ≠ 6) (h7 : j ≠ 7) (h8 : j ≠ 8) (h9 : j ≠ 9) (h10 : j ≠ 10) (h11 : j ≠ 11) (h12 : j ≠ 12) (h13 : j ≠ 13) (h43 : j ≠ 43) (h44 : j ≠ 44) (h45 : j ≠ 45) (h46 : j ≠ 46) : vd_mkK K src a b j = K j := by
  show vd_st (vd_st (vd_st (vd_st (vd_st (vd_krK (vd_st K 43 0 (K 43 0 + 1)) src) 4 _ _) 5 _ _) 6 _ _) 7 _ _) 44 _ _ j = K j
  rw [vd_st_o h44, vd_st_o h7, vd_st_o h6, vd_st_o h5, vd_st_o h4, vd_krK_o h8 h9 h10 h11 h12 h13 h45 h46, vd_st_o h43]
theorem vd_mkK_3 {K : KT} {src a b : Nat} : vd_mkK K src a b 3 = K 3 := vd_mkK_o (by decide) (by decide) (by decide) (by decide) (by decide) (by decide) (by decide) (by decide) (by decide) (by decide) (by decide) (by decide) (by decide) (by decide)
theorem vd_mkK_40 {K : KT} {src a b : Nat} : vd_mkK K src a b 40 = K 40 := vd_mkK_o (by decide) (by decide) (by decide) (by decide) (by decide) (by decide) (by decide) (by decide) (by decide) (by decide) (by decide) (by decide) (by decide) (by decide)
/-! the class's operations: answer and state -/
def vd_cmR (K : KT) : Int32 := if K 42 0 ≠ 0 then (-5 : Int32) else if K 41 0 = 0 ∧ vd_ash K 1 = true then (-3 : Int32) else if 30 ≤ K 43 0 then (-2 : Int32) else nI (K 43 0 + 1)
def vd_cmK (K : KT) : KT := if K 42 0 ≠ 0 then K else if K 41 0 = 0 ∧ vd_ash K 1 = true then K else if 30 ≤ K 43 0 then K else vd_st (vd_st (vd_mkK K 1 (vd_here K) (K 41 0)) 3 (K 40 0) (K 43 0 + 1)) 41 0 0
def vd_stK (K : KT) (f : Nat) : KT := vd_st (vd_bk (vd_st K 1 f (K 0 f)) (K 0 f)) 42 0 (vd_clr (K 42 0) f)
def vd_tuR (K : KT) (x : Int32) : Int32 := if vd_there K x = false ∨ K 41 0 ≠ 0 then (-1 : Int32) else if vd_tidy K = false then (-4 : Int32) else nI (K 3 x.toNatClampNeg)
def vd_tuK (K : KT) (x : Int32) : KT := if vd_there K x = false ∨ K 41 0 ≠ 0 then K else if vd_tidy K = false then K else vd_mv (vd_st K 40 0 x.toNatClampNeg) (K 3 x.toNatClampNeg)
/-- merge of commits that neither leads to the other -/
def vd_mask (K : KT) (o b : Nat) : Nat := vd_mk (fun f => vd_clash K o b f) 16
def vd_base (K : KT) (o : Nat) : Nat := vd_top (K 7 (vd_here K) &&& K 7 o) 30
def vd_maR (K : KT) (o : Nat) : Int32 := if vd_mask K o (vd_base K o) = 0 then (if 30 ≤ K 43 0 then (-2 : Int32) else nI (K 43 0 + 1)) else (-5 : Int32)
def vd_maK (K : KT) (o : Nat) : KT :=
  let K1 := vd_mix K o (vd_base K o)
  if vd_mask K o (vd_base K o) = 0 then (if 30 ≤ K 43 0 then K1 else vd_mv (vd_mkK K1 2 (vd_here K) o) (K 43 0 + 1))
  else vd_st (vd_st (vd_fl (vd_fl K1 1 0 16 (fun b => K1 2 (0 + b))) 0 0 16 (fun b => K1 2 (0 + b))) 41 0 o) 42 0 (vd_mask K o (vd_base K o))
def vd_meR (K : KT) (x : Int32) : Int32 :=
  if vd_there K x = false ∨ vd_here K = 0 ∨ K 41 0 ≠ 0 then (-1 : Int32) else if vd_tidy K = false then (-4 : Int32)
  else if (K 7 (vd_here K)).testBit (K 3 x.toNatClampNeg) = true then nI 0
  else if (K 7 (K 3 x.toNatClampNeg)).testBit (vd_here K) = true then nI (K 3 x.toNatClampNeg) else vd_maR K (K 3 x.toNatClampNeg)
def vd_meK (K : KT) (x : Int32) : KT :=
  if vd_there K x = false ∨ vd_here K = 0 ∨ K 41 0 ≠ 0 then K else if vd_tidy K = false then K
  else if (K 7 (vd_here K)).testBit (K 3 x.toNatClampNeg) = true then K
  else if (K 7 (K 3 x.toNatClampNeg)).testBit (vd_here K) = true then vd_mv K (K 3 x.toNatClampNeg) else vd_maK K (K 3 x.toNatClampNeg)
def vd_piR (K : KT) (x : Int32) : Int32 :=
  if vd_hol K x = false ∨ vd_here K = 0 ∨ K 41 0 ≠ 0 then (-1 : Int32) else if vd_tidy K = false then (-4 : Int32)
  else if vd_mask K x.toNatClampNeg (K 5 x.toNatClampNeg) ≠ 0 then (-5 : Int32)
  else if vd_ash (vd_mix K x.toNatClampNeg (K 5 x.toNatClampNeg)) 2 = true then (-3 : Int32) else if 30 ≤ K 43 0 then (-2 : Int32) else nI (K 43 0 + 1)
def vd_piK (K : KT) (x : Int32) : KT :=
  if vd_hol K x = false ∨ vd_here K = 0 ∨ K 41 0 ≠ 0 then K else if vd_tidy K = false then K
  else if vd_mask K x.toNatClampNeg (K 5 x.toNatClampNeg) ≠ 0 then vd_mix K x.toNatClampNeg (K 5 x.toNatClampNeg)
  else if vd_ash (vd_mix K x.toNatClampNeg (K 5 x.toNatClampNeg)) 2 = true then vd_mix K x.toNatClampNeg (K 5 x.toNatClampNeg) else if 30 ≤ K 43 0 then vd_mix K x.toNatClampNeg (K 5 x.toNatClampNeg)
  else vd_mv (vd_mkK (vd_mix K x.toNatClampNeg (K 5 x.toNatClampNeg)) 2 (vd_here K) 0) (K 43 0 + 1)
def vd_need (K : KT) : Nat → Nat
  | 0 => K 7 (K 41 0)
  | n + 1 => vd_need K n ||| K 7 (K 3 n)
def vd_swK (K : KT) : KT := vd_bks (vd_koK K (vd_need K 6)) 1 0 16
theorem vd_there_t {K : KT} {x : Int32} (h : vd_there K x = true) : ∃ c : Nat, 0 ≤ c ∧ c ≤ 5 ∧ x = nI c ∧ K 3 c ≠ 0 := by
  unfold vd_there at h
  rw [Bool.and_eq_true] at h
  obtain ⟨c, h1, h2, rfl⟩ := vd_in_t h.1
  rw [nI_clamp (by omega)] at h
  exact ⟨c, h1, h2, rfl, by simpa using h.2⟩
theorem vd_pow64 {y : Nat} (h : y < 64) : 2 ^ y < 2 ^ 64 := Nat.pow_lt_pow_right (by decide) h
theorem vd_or64 {x y : Nat} (hx : x ≤ 18446744073709551615) (hy : y < 2 ^ 64) : x ||| y ≤ 18446744073709551615 :=
  Nat.le_of_lt_succ (Nat.or_lt_two_pow (n := 64) (Nat.lt_succ_of_le hx) hy)
theorem vd_lshl : ∀ y, y < 64 → lN 1 <<< ((nI y).toInt64 &&& 63) = lN (2 ^ y) := by decide +kernel
theorem vd_lorE {a b : Nat} (ha : a < 2 ^ 64) (hb : b < 2 ^ 64) : lN a ||| lN b = lN (a ||| b) := by
  apply Int64.toBitVec_inj.1
  show BitVec.ofNat 64 a ||| BitVec.ofNat 64 b = BitVec.ofNat 64 (a ||| b)
  apply BitVec.eq_of_getLsbD_eq
  intro i hi
  simp [hi]
section VDS
variable {p : Program} {l : Launch} {e : Env} {R : Room} {s : State} {m : MethodId} {args : Array Value} {below : List Frame} {meth : Method} {c : Code} {H : Heap} {locs : List Loc} {Q : State → Prop}
variable {cells slots : Nat} {cc : ByteArray} {pc : Nat} {ls : Array Slot} {rest : List Value}
theorem vd_lor (hx : p.tables.exec = Jvm.exec) (hb : c.code = cc) {x y : Nat} (h1 : x < 2 ^ 64) (h2 : y < 2 ^ 64) (hdg : decode cc pc = .ok (.lor, 1)) (k : W p l e R s m args below meth c H locs cells slots Q (F0 m (pc + 1) ls (.long (lN (x ||| y)) :: rest))) : W p l e R s m args below meth c H locs cells slots Q (F0 m pc ls (.long (lN y) :: .long (lN x) :: rest)) := lv_lor hx hb hdg (by rw [vd_lorE h1 h2]; exact k)
theorem vd_iclr (hx : p.tables.exec = Jvm.exec) (hb : c.code = cc) {x f : Nat} (h1 : x ≤ 65535) (h2 : f < 16) (hdg : decode cc pc = .ok (.iand, 1)) (k : W p l e R s m args below meth c H locs cells slots Q (F0 m (pc + 1) ls (.int (nI (vd_clr x f)) :: rest))) : W p l e R s m args below meth c H locs cells slots Q (F0 m pc ls (.int (nI (2 ^ f) ^^^ (-1 : Int32)) :: .int (nI x) :: rest)) := lv_iand hx hb hdg (by rw [vd_clrI h1 h2]; exact k)
end VDS
theorem vd_sw2 (x : Int32) : (x.toInt < 0 ∨ 1 < x.toInt) ∨ x = nI 0 ∨ x = nI 1 := by
  by_cases h1 : x.toInt < 0
  · exact Or.inl (Or.inl h1)
  · by_cases h2 : 1 < x.toInt
    · exact Or.inl (Or.inr h2)
    · obtain ⟨c, _, hc, rfl⟩ := vd_ofI (lo := 0) (hi := 1) (x := x) (by omega) (by omega)
      rcases (show c = 0 ∨ c = 1 by omega) with rfl | rfl
      · exact Or.inr (Or.inl rfl)
      · exact Or.inr (Or.inr rfl)
theorem vd_sw10 (x : Int32) : (x.toInt < 0 ∨ 9 < x.toInt) ∨ x = nI 0 ∨ x = nI 1 ∨ x = nI 2 ∨ x = nI 3 ∨ x = nI 4 ∨ x = nI 5 ∨ x = nI 6 ∨ x = nI 7 ∨ x = nI 8 ∨ x = nI 9 := by
  by_cases h1 : x.toInt < 0
  · exact Or.inl (Or.inl h1)
  · by_cases h2 : 9 < x.toInt
    · exact Or.inl (Or.inr h2)
    · obtain ⟨c, _, hc, rfl⟩ := vd_ofI (lo := 0) (hi := 9) (x := x) (by omega) (by omega)
      refine Or.inr ?_
      rcases (show c = 0 ∨ c = 1 ∨ c = 2 ∨ c = 3 ∨ c = 4 ∨ c = 5 ∨ c = 6 ∨ c = 7 ∨ c = 8 ∨ c = 9 by omega) with rfl | rfl | rfl | rfl | rfl | rfl | rfl | rfl | rfl | rfl <;> simp
/-- count: which number, for the class and for the reference -/
def vd_ct (n : Nat → Nat) (x : Int32) : Int32 := if vd_in 0 9 x = true then nI (n x.toNatClampNeg) else (-1 : Int32)
theorem vd_ct_o {n : Nat → Nat} {x : Int32} (h : x.toInt < 0 ∨ 9 < x.toInt) : (-1 : Int32) = vd_ct n x := by
  unfold vd_ct
  rcases h with h | h
  · rw [vd_in_l (by omega)]
    rfl
  · rw [vd_in_h (by omega)]
    rfl
theorem vd_ct_i {n : Nat → Nat} {c : Nat} (h : c ≤ 9) : nI (n c) = vd_ct n (nI c) := by
  unfold vd_ct
  rw [vd_in_n (Nat.zero_le _) h (by decide), if_pos rfl, nI_clamp (by omega)]
def vd_ctN (K : KT) : Nat → Nat
  | 0 => vd_bsz K 157
  | 1 => vd_rsz K 11 45
  | 2 => vd_rsz K 13 46
  | 3 => vd_pc 32 (K 44 0)
  | 4 => K 43 0
  | 5 => K 40 0
  | 6 => vd_here K
  | 7 => K 41 0
  | 8 => vd_pc 32 (K 42 0)
  | _ => vd_un K
def vd_dif (K : KT) (a b : Nat) : Nat := vd_cn (fun f => vd_cnt K a f != vd_cnt K b f) 16
/-! the reference's operations -/
def vd_cmRM (K : KT) : Int32 := if vd_clM K ≠ 0 then (-5 : Int32) else if K 49 0 = 0 ∧ vd_same K 32 (vd_hereM K) = true then (-3 : Int32) else if K 47 0 = 30 then (-2 : Int32) else nI (K 47 0 + 1)
def vd_cmKM (K : KT) : KT := if vd_clM K ≠ 0 then K else if K 49 0 = 0 ∧ vd_same K 32 (vd_hereM K) = true then K else if K 47 0 = 30 then K else vd_mkM (vd_st K 49 0 0) 32 (if vd_hereM K ≠ 0 then vd_hereM K else K 49 0) (if vd_hereM K ≠ 0 then K 49 0 else 0)
def vd_thM (K : KT) (x : Int32) : Bool := vd_in 0 5 x && (K 18 x.toNatClampNeg != 0)
def vd_tuRM (K : KT) (x : Int32) : Int32 := if vd_thM K x = false ∨ K 49 0 ≠ 0 then (-1 : Int32) else if vd_tidyM K = false then (-4 : Int32) else nI (K 18 x.toNatClampNeg)
def vd_tuKM (K : KT) (x : Int32) : KT := if vd_thM K x = false ∨ K 49 0 ≠ 0 then K else if vd_tidyM K = false then K else vd_shw (vd_st K 48 0 x.toNatClampNeg) (K 18 x.toNatClampNeg)
def vd_xn (K : KT) (x y z : Nat) : Nat := vd_cn (fun f => vd_xcl K x y z f) 16
def vd_meK2 (K : KT) (c : Nat) : KT :=
  let K1 := vd_shK K (vd_hereM K) c
  let b := vd_shr K (vd_hereM K) c
  if b = c then K1 else if b = vd_hereM K1 then vd_shw (vd_st K1 18 (K1 48 0) c) c else
  let K2 := vd_mxl K1 (vd_hereM K1) c b 0 16
  if vd_xn K1 (vd_hereM K1) c b = 0 then (if K2 47 0 = 30 then K2 else vd_shw (vd_mkM K2 33 (vd_hereM K2) c) (vd_hereM (vd_mkM K2 33 (vd_hereM K2) c)))
  else vd_st (vd_shw (vd_mxl K2 (vd_hereM K2) c b 1 16) 33) 49 0 c
def vd_meR2 (K : KT) (c : Nat) : Int32 :=
  let K1 := vd_shK K (vd_hereM K) c
  let b := vd_shr K (vd_hereM K) c
  if b = c then nI 0 else if b = vd_hereM K1 then nI c else
  let K2 := vd_mxl K1 (vd_hereM K1) c b 0 16
  if vd_xn K1 (vd_hereM K1) c b = 0 then (if K2 47 0 = 30 then (-2 : Int32) else nI (vd_hereM (vd_shw (vd_mkM K2 33 (vd_hereM K2) c) (vd_hereM (vd_mkM K2 33 (vd_hereM K2) c)))))
  else (-5 : Int32)
def vd_meRM (K : KT) (x : Int32) : Int32 := if vd_thM K x = false ∨ vd_hereM K = 0 ∨ K 49 0 ≠ 0 then (-1 : Int32) else if vd_tidyM K = false then (-4 : Int32) else vd_meR2 K (K 18 x.toNatClampNeg)
def vd_meKM (K : KT) (x : Int32) : KT := if vd_thM K x = false ∨ vd_hereM K = 0 ∨ K 49 0 ≠ 0 then K else if vd_tidyM K = false then K else vd_meK2 K (K 18 x.toNatClampNeg)
def vd_piK2 (K : KT) (c : Nat) : KT :=
  let K1 := vd_mxl K (vd_hereM K) c (K 16 c) 0 16
  if vd_xn K (vd_hereM K) c (K 16 c) ≠ 0 then K1 else if vd_same K1 33 (vd_hereM K1) = true then K1 else if K1 47 0 = 30 then K1 else
  vd_shw (vd_mkM K1 33 (vd_hereM K1) 0) (vd_hereM (vd_mkM K1 33 (vd_hereM K1) 0))
def vd_piR2 (K : KT) (c : Nat) : Int32 :=
  let K1 := vd_mxl K (vd_hereM K) c (K 16 c) 0 16
  if vd_xn K (vd_hereM K) c (K 16 c) ≠ 0 then (-5 : Int32) else if vd_same K1 33 (vd_hereM K1) = true then (-3 : Int32) else if K1 47 0 = 30 then (-2 : Int32) else
  nI (vd_hereM (vd_shw (vd_mkM K1 33 (vd_hereM K1) 0) (vd_hereM (vd_mkM K1 33 (vd_hereM K1) 0))))
def vd_piRM (K : KT) (x : Int32) : Int32 := if vd_stoM K x = false ∨ vd_hereM K = 0 ∨ K 49 0 ≠ 0 then (-1 : Int32) else if vd_tidyM K = false then (-4 : Int32) else vd_piR2 K x.toNatClampNeg
def vd_piKM (K : KT) (x : Int32) : KT := if vd_stoM K x = false ∨ vd_hereM K = 0 ∨ K 49 0 ≠ 0 then K else if vd_tidyM K = false then K else vd_piK2 K x.toNatClampNeg
def vd_obM (K : KT) : Nat := vd_c0 K + vd_c1 K + vd_c2 K + vd_c3 K
def vd_ctM (K : KT) : Nat → Nat
  | 0 => vd_c0 K
  | 1 => vd_c1 K
  | 2 => vd_c2 K
  | 3 => vd_c3 K
  | 4 => K 47 0
  | 5 => K 48 0
  | 6 => vd_hereM K
  | 7 => K 49 0
  | 8 => vd_clM K
  | _ => vd_chg K
/-- sweep: the marked ones of a run of branches -/
def vd_or2 (K : KT) : Nat → KT
  | 0 => K
  | k + 1 => if K 21 (k + 1) ≠ 0 then vd_st (vd_or2 K k) 22 (k + 1) 1 else vd_or2 K k
theorem vd_or2_s (K : KT) (k : Nat) : vd_or2 K (k + 1) = if K 21 (k + 1) ≠ 0 then vd_st (vd_or2 K k) 22 (k + 1) 1 else vd_or2 K k := rfl
def vd_swb (K : KT) (b : Nat) : Nat := if b < 6 then K 18 b else K 49 0
def vd_sw1 (K : KT) : Nat → KT
  | 0 => K
  | b + 1 => vd_or2 (vd_mar (vd_sw1 K b) (vd_swb K b)) 30
theorem vd_sw1_s (K : KT) (b : Nat) : vd_sw1 K (b + 1) = vd_or2 (vd_mar (vd_sw1 K b) (vd_swb K b)) 30 := rfl
def vd_bl3 (K : KT) (k : Nat) : Nat → KT
  | 0 => K
  | f + 1 => if K 15 k ≠ 0 then vd_st (vd_bl3 K k f) 20 (K 14 (16 * k + f)) 1 else vd_bl3 K k f
theorem vd_bl3_s (K : KT) (k f : Nat) : vd_bl3 K k (f + 1) = if K 15 k ≠ 0 then vd_st (vd_bl3 K k f) 20 (K 14 (16 * k + f)) 1 else vd_bl3 K k f := rfl
def vd_sw3 (K : KT) : Nat → KT
  | 0 => K
  | k + 1 => vd_bl3 (vd_st (vd_sw3 K k) 15 (k + 1) (K 22 (k + 1))) (k + 1) 16
theorem vd_sw3_s (K : KT) (k : Nat) : vd_sw3 K (k + 1) = vd_bl3 (vd_st (vd_sw3 K k) 15 (k + 1) (K 22 (k + 1))) (k + 1) 16 := rfl
def vd_sw4 (K : KT) : Nat → KT
  | 0 => K
  | f + 1 => vd_st (vd_sw4 K f) 20 (K 14 (512 + f)) 1
theorem vd_sw4_s (K : KT) (f : Nat) : vd_sw4 K (f + 1) = vd_st (vd_sw4 K f) 20 (K 14 (512 + f)) 1 := rfl
def vd_swKM (K : KT) : KT := vd_st (vd_sw4 (vd_sw3 (vd_fl (vd_sw1 (vd_fl K 22 0 31 (fun _ => 0)) 7) 20 0 10000 (fun _ => 0)) 30) 16) 20 0 0
theorem vd_mk1_o (K : KT) (j : Nat) {a : Nat} (h : a ≠ 21) : vd_mk1 K j a = K a := by
  unfold vd_mk1
  split
  · rw [vd_st_o h, vd_st_o h]
  · rfl
theorem vd_mkd_o {a : Nat} (h : a ≠ 21) : ∀ (j : Nat) (K : KT), vd_mkd j K a = K a
  | 0, K => rfl
  | j + 1, K => by
    rw [vd_mkd_s]
    rw [vd_mkd_o h j, vd_mk1_o _ _ h]
theorem vd_mar_o (K : KT) (c : Nat) {a : Nat} (h : a ≠ 21) : vd_mar K c a = K a := by
  unfold vd_mar vd_mk0
  rw [vd_st_o h, vd_mkd_o h, vd_fl_o h]
theorem vd_shK_o (K : KT) (x y : Nat) {a : Nat} (h : a ≠ 21) (h2 : a ≠ 22) : vd_shK K x y a = K a := by
  unfold vd_shK
  rw [vd_mar_o _ _ h, vd_fl_o h2, vd_mar_o _ _ h]
theorem vd_mxl_o (K : KT) (x y z w : Nat) {a : Nat} (h : a ≠ 14) (h2 : a ≠ 19) : ∀ i, vd_mxl K x y z w i a = K a
  | 0 => rfl
  | i + 1 => by
    rw [vd_mxl_s]
    split
    · rw [vd_st_o h2, vd_st_o h, vd_mxl_o K x y z w h h2 i]
    · rw [vd_st_o h, vd_mxl_o K x y z w h h2 i]
theorem vd_or2_o (K : KT) {a : Nat} (h : a ≠ 22) : ∀ k, vd_or2 K k a = K a
  | 0 => rfl
  | k + 1 => by
    rw [vd_or2_s]
    split
    · rw [vd_st_o h, vd_or2_o K h k]
    · rw [vd_or2_o K h k]
theorem vd_sw1_o (K : KT) {a : Nat} (h : a ≠ 22) (h2 : a ≠ 21) : ∀ k, vd_sw1 K k a = K a
  | 0 => rfl
  | k + 1 => by
    rw [vd_sw1_s]
    rw [vd_or2_o _ h, vd_mar_o _ _ h2, vd_sw1_o K h h2 k]
theorem vd_bl3_o (K : KT) (k : Nat) {a : Nat} (h : a ≠ 20) : ∀ f, vd_bl3 K k f a = K a
  | 0 => rfl
  | f + 1 => by
    rw [vd_bl3_s]
    split
    · rw [vd_st_o h, vd_bl3_o K k h f]
    · rw [vd_bl3_o K k h f]
theorem vd_sw3_o (K : KT) {a : Nat} (h : a ≠ 20) (h2 : a ≠ 15) : ∀ k, vd_sw3 K k a = K a
  | 0 => rfl
  | k + 1 => by
    rw [vd_sw3_s]
    rw [vd_bl3_o _ _ h, vd_st_o h2, vd_sw3_o K h h2 k]
theorem vd_sw4_o (K : KT) {a : Nat} (h : a ≠ 20) : ∀ f, vd_sw4 K f a = K a
  | 0 => rfl
  | f + 1 => by
    rw [vd_sw4_s]
    rw [vd_st_o h, vd_sw4_o K h f]
theorem vd_frs0 {t q : Nat} {X : Prop} {P : Nat → Prop} (h : t ≠ 0 ↔ (X ∧ ∀ b, 1 ≤ b → b < q + 1 → ¬ P b)) (hp : P (q + 1)) : (0 : Nat) ≠ 0 ↔ (X ∧ ∀ b, 1 ≤ b → b < q + 1 + 1 → ¬ P b) :=
  ⟨fun z => absurd rfl z, fun z => absurd hp (z.2 (q + 1) (by omega) (by omega))⟩
theorem vd_frs1 {t q : Nat} {X : Prop} {P : Nat → Prop} (h : t ≠ 0 ↔ (X ∧ ∀ b, 1 ≤ b → b < q + 1 → ¬ P b)) (hp : ¬ P (q + 1)) : t ≠ 0 ↔ (X ∧ ∀ b, 1 ≤ b → b < q + 1 + 1 → ¬ P b) := by
  rw [h]
  refine ⟨fun z => ⟨z.1, fun b h1 h2 => ?_⟩, fun z => ⟨z.1, fun b h1 h2 => z.2 b h1 (by omega)⟩⟩
  by_cases e : b = q + 1
  · subst e
    exact hp
  · exact z.2 b h1 (by omega)
theorem vd_frt0 {t u : Nat} {X : Prop} {P : Nat → Prop} (h : t ≠ 0 ↔ (X ∧ ∀ b, b < u → ¬ P b)) (hp : P u) : (0 : Nat) ≠ 0 ↔ (X ∧ ∀ b, b < u + 1 → ¬ P b) :=
  ⟨fun z => absurd rfl z, fun z => absurd hp (z.2 u (by omega))⟩
theorem vd_frt1 {t u : Nat} {X : Prop} {P : Nat → Prop} (h : t ≠ 0 ↔ (X ∧ ∀ b, b < u → ¬ P b)) (hp : ¬ P u) : t ≠ 0 ↔ (X ∧ ∀ b, b < u + 1 → ¬ P b) := by
  rw [h]
  refine ⟨fun z => ⟨z.1, fun b h2 => ?_⟩, fun z => ⟨z.1, fun b h2 => z.2 b (by omega)⟩⟩
  by_cases e : b = u
  · subst e
    exact hp
  · exact z.2 b (by omega)
theorem vd_frt2 {t u : Nat} {X : Prop} {P : Nat → Prop} (h : t ≠ 0 ↔ (X ∧ ∀ b, b < u → ¬ P b)) (hp : t = 0) : t ≠ 0 ↔ (X ∧ ∀ b, b < u + 1 → ¬ P b) :=
  ⟨fun z => absurd hp z, fun z => h.mpr ⟨z.1, fun b h2 => z.2 b (by omega)⟩⟩
/-! the reference's merge and pick, case by case -/
theorem vd_me_a {K K1 : KT} {c : Nat} (h1 : vd_shr K (vd_hereM K) c = c) (e1 : K1 = vd_shK K (vd_hereM K) c) : K1 = vd_meK2 K c ∧ nI 0 = vd_meR2 K c := by
  unfold vd_meK2 vd_meR2
  rw [if_pos h1, if_pos h1]
  exact ⟨e1, rfl⟩
theorem vd_me_b {K K1 K2 : KT} {c : Nat} (h1 : ¬ vd_shr K (vd_hereM K) c = c) (e1 : K1 = vd_shK K (vd_hereM K) c) (h2 : vd_shr K (vd_hereM K) c = vd_hereM K1) (e2 : K2 = vd_shw (vd_st K1 18 (K1 48 0) c) c) : K2 = vd_meK2 K c ∧ nI c = vd_meR2 K c := by
  subst e1
  unfold vd_meK2 vd_meR2
  rw [if_neg h1, if_neg h1]
  simp only [if_pos h2]
  exact ⟨e2, trivial⟩
theorem vd_me_c {K K1 K2 : KT} {c : Nat} (h1 : ¬ vd_shr K (vd_hereM K) c = c) (e1 : K1 = vd_shK K (vd_hereM K) c) (h2 : ¬ vd_shr K (vd_hereM K) c = vd_hereM K1) (h3 : vd_xn K1 (vd_hereM K1) c (vd_shr K (vd_hereM K) c) = 0) (e2 : K2 = vd_mxl K1 (vd_hereM K1) c (vd_shr K (vd_hereM K) c) 0 16) (h4 : K2 47 0 = 30) : K2 = vd_meK2 K c ∧ (-2 : Int32) = vd_meR2 K c := by
  subst e2 e1
  unfold vd_meK2 vd_meR2
  rw [if_neg h1, if_neg h1]
  simp only [if_neg h2, if_pos h3, if_pos h4]
  exact ⟨trivial, trivial⟩
theorem vd_me_d {K K1 K2 K3 K4 : KT} {c : Nat} (h1 : ¬ vd_shr K (vd_hereM K) c = c) (e1 : K1 = vd_shK K (vd_hereM K) c) (h2 : ¬ vd_shr K (vd_hereM K) c = vd_hereM K1) (h3 : vd_xn K1 (vd_hereM K1) c (vd_shr K (vd_hereM K) c) = 0) (e2 : K2 = vd_mxl K1 (vd_hereM K1) c (vd_shr K (vd_hereM K) c) 0 16) (h4 : ¬ K2 47 0 = 30) (e3 : K3 = vd_mkM K2 33 (vd_hereM K2) c) (e4 : K4 = vd_shw K3 (vd_hereM K3)) : K4 = vd_meK2 K c ∧ nI (vd_hereM K4) = vd_meR2 K c := by
  subst e4 e3 e2 e1
  unfold vd_meK2 vd_meR2
  rw [if_neg h1, if_neg h1]
  simp only [if_neg h2, if_pos h3, if_neg h4]
  exact ⟨trivial, trivial⟩
theorem vd_me_e {K K1 K2 K4 K5 K6 : KT} {c : Nat} (h1 : ¬ vd_shr K (vd_hereM K) c = c) (e1 : K1 = vd_shK K (vd_hereM K) c) (h2 : ¬ vd_shr K (vd_hereM K) c = vd_hereM K1) (h3 : ¬ vd_xn K1 (vd_hereM K1) c (vd_shr K (vd_hereM K) c) = 0) (e2 : K2 = vd_mxl K1 (vd_hereM K1) c (vd_shr K (vd_hereM K) c) 0 16) (e4 : K4 = vd_mxl K2 (vd_hereM K2) c (vd_shr K (vd_hereM K) c) 1 16) (e5 : K5 = vd_shw K4 33) (e6 : K6 = vd_st K5 49 0 c) : K6 = vd_meK2 K c ∧ (-5 : Int32) = vd_meR2 K c := by
  subst e6 e5 e4 e2 e1
  unfold vd_meK2 vd_meR2
  rw [if_neg h1, if_neg h1]
  simp only [if_neg h2, if_neg h3]
  exact ⟨trivial, trivial⟩
theorem vd_pi_a {K K1 : KT} {c : Nat} (e1 : K1 = vd_mxl K (vd_hereM K) c (K 16 c) 0 16) (h1 : vd_xn K (vd_hereM K) c (K 16 c) ≠ 0) : K1 = vd_piK2 K c ∧ (-5 : Int32) = vd_piR2 K c := by
  unfold vd_piK2 vd_piR2
  rw [if_pos h1, if_pos h1]
  exact ⟨e1, rfl⟩
theorem vd_pi_b {K K1 : KT} {c : Nat} (e1 : K1 = vd_mxl K (vd_hereM K) c (K 16 c) 0 16) (h1 : vd_xn K (vd_hereM K) c (K 16 c) = 0) (h2 : vd_same K1 33 (vd_hereM K1) = true) : K1 = vd_piK2 K c ∧ (-3 : Int32) = vd_piR2 K c := by
  subst e1
  have h1' : ¬ vd_xn K (vd_hereM K) c (K 16 c) ≠ 0 := fun z => z h1
  unfold vd_piK2 vd_piR2
  rw [if_neg h1', if_neg h1']
  simp only [if_pos h2]
  exact ⟨trivial, trivial⟩
theorem vd_pi_c {K K1 : KT} {c : Nat} (e1 : K1 = vd_mxl K (vd_hereM K) c (K 16 c) 0 16) (h1 : vd_xn K (vd_hereM K) c (K 16 c) = 0) (h2 : vd_same K1 33 (vd_hereM K1) = false) (h3 : K1 47 0 = 30) : K1 = vd_piK2 K c ∧ (-2 : Int32) = vd_piR2 K c := by
  subst e1
  have h1' : ¬ vd_xn K (vd_hereM K) c (K 16 c) ≠ 0 := fun z => z h1
  unfold vd_piK2 vd_piR2
  rw [if_neg h1', if_neg h1']
  simp only [if_neg (by rw [h2]; decide : ¬ vd_same (vd_mxl K (vd_hereM K) c (K 16 c) 0 16) 33 (vd_hereM (vd_mxl K (vd_hereM K) c (K 16 c) 0 16)) = true), if_pos h3]
  exact ⟨trivial, trivial⟩
theorem vd_pi_d {K K1 K2 K3 : KT} {c : Nat} (e1 : K1 = vd_mxl K (vd_hereM K) c (K 16 c) 0 16) (h1 : vd_xn K (vd_hereM K) c (K 16 c) = 0) (h2 : vd_same K1 33 (vd_hereM K1) = false) (h3 : ¬ K1 47 0 = 30) (e2 : K2 = vd_mkM K1 33 (vd_hereM K1) 0) (e3 : K3 = vd_shw K2 (vd_hereM K2)) : K3 = vd_piK2 K c ∧ nI (vd_hereM K3) = vd_piR2 K c := by
  subst e3 e2 e1
  have h1' : ¬ vd_xn K (vd_hereM K) c (K 16 c) ≠ 0 := fun z => z h1
  unfold vd_piK2 vd_piR2
  rw [if_neg h1', if_neg h1']
  simp only [if_neg (by rw [h2]; decide : ¬ vd_same (vd_mxl K (vd_hereM K) c (K 16 c) 0 16) 33 (vd_hereM (vd_mxl K (vd_hereM K) c (K 16 c) 0 16)) = true), if_neg h3]
  exact ⟨trivial, trivial⟩
