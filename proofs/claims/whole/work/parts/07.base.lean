/-! THE STATE: K j i = place i of array j (class: 0 work, 1 index, 2 mixture, 3 tips, 4 rootOf, 5 firstParents, 6 secondParents, 7 ancestors, 8 folderRow, 9 bits, 10 folders.numbers, 11 folders.stored, 12 roots.numbers, 13 roots.stored; reference: 14 content, 15 stored, 16 first, 17 second, 18 branch, 19 clashing, 20 blob, 21 marked, 22 other); K j 0 for the fields (class: 40 head, 41 merging, 42 clashes, 43 made, 44 stored, 45 folders.last, 46 roots.last; reference: 47 made, 48 head, 49 merging) -/
abbrev KT : Type := Nat → Nat → Nat
def vd_sa (K : KT) (j : Nat) (G : Nat → Nat) : KT := fun a => if a = j then G else K a
theorem vd_sa_o {K : KT} {j a : Nat} {G : Nat → Nat} (h : a ≠ j) : vd_sa K j G a = K a := if_neg h
theorem vd_sa_s {K : KT} {j : Nat} {G : Nat → Nat} : vd_sa K j G j = G := if_pos rfl
theorem vd_sa_sa {K : KT} {j : Nat} {G G' : Nat → Nat} : vd_sa (vd_sa K j G) j G' = vd_sa K j G' := by
  funext a
  by_cases h : a = j
  · subst h
    rw [vd_sa_s, vd_sa_s]
  · rw [vd_sa_o h, vd_sa_o h, vd_sa_o h]
theorem vd_sa_id {K : KT} {j : Nat} {G : Nat → Nat} (h : G = K j) : vd_sa K j G = K := by
  funext a
  by_cases ha : a = j
  · subst ha
    rw [vd_sa_s, h]
  · rw [vd_sa_o ha]
def vd_st (K : KT) (j i x : Nat) : KT := vd_sa K j (fun b => if b = i then x else K j b)
def vd_fl (K : KT) (j o n : Nat) (g : Nat → Nat) : KT := vd_sa K j (fun b => if o ≤ b ∧ b < o + n then g (b - o) else K j b)
theorem vd_st_o {K : KT} {j i x a : Nat} (h : a ≠ j) : vd_st K j i x a = K a := vd_sa_o h
theorem vd_st_s {K : KT} {j i x : Nat} : vd_st K j i x j = fun b => if b = i then x else K j b := vd_sa_s
theorem vd_fl_o {K : KT} {j o n a : Nat} {g : Nat → Nat} (h : a ≠ j) : vd_fl K j o n g a = K a := vd_sa_o h
theorem vd_fl_i {K : KT} {j o n : Nat} {g : Nat → Nat} : vd_fl K j o n g j = fun b => if o ≤ b ∧ b < o + n then g (b - o) else K j b := vd_sa_s
theorem vd_fl_0 {K : KT} {j o : Nat} {g : Nat → Nat} : vd_fl K j o 0 g = K := vd_sa_id (by
  funext b
  rw [if_neg (by omega)])
theorem vd_fl_s {K : KT} {j o n : Nat} {g : Nat → Nat} : vd_st (vd_fl K j o n g) j (o + n) (g n) = vd_fl K j o (n + 1) g := by
  unfold vd_st
  rw [vd_fl_i]
  unfold vd_fl
  rw [vd_sa_sa]
  congr 1
  funext b
  by_cases h1 : b = o + n
  · rw [if_pos h1, if_pos (by omega), h1, Nat.add_sub_cancel_left]
  · rw [if_neg h1]
    show (if o ≤ b ∧ b < o + n then g (b - o) else K j b) = if o ≤ b ∧ b < o + (n + 1) then g (b - o) else K j b
    by_cases h2 : o ≤ b ∧ b < o + n
    · rw [if_pos h2, if_pos (by omega)]
    · rw [if_neg h2, if_neg (by omega)]
/-- a step of a filling loop, by equations -/
theorem vd_fl_step {K K2 K3 : KT} {j o n i x : Nat} {g : Nat → Nat} (h2 : K2 = vd_fl K j o n g) (h3 : K3 = vd_st K2 j i x) (hi : i = o + n) (hx : x = g n) : K3 = vd_fl K j o (n + 1) g := by
  rw [h3, h2, hi, hx, vd_fl_s]
def vd_ln (j : Nat) : Nat := [16, 16, 16, 6, 31, 31, 31, 31, 4, 157, 484, 121, 124, 31, 544, 31, 31, 31, 6, 16, 10000, 31, 31].getD j 1
def vd_ub (j : Nat) : Nat := [9999, 9999, 9999, 30, 30, 30, 30, 2147483647, 120, 18446744073709551615, 9999, 1, 120, 1, 9999, 1, 30, 30, 30, 1, 1, 1, 1, 0, 0, 0, 0, 0, 0, 0, 0, 0, 0, 0, 0, 0, 0, 0, 0, 0, 5, 30, 65535, 30, 2147483647, 120, 30, 30, 5, 30].getD j 0
def vd_kn (j : Nat) : Nat := [0, 0, 0, 0, 0, 0, 0, 0, 0, 2, 0, 1, 0, 1, 0, 1, 0, 0, 0, 1, 1, 1, 1].getD j 9
def vd_Bd (K : KT) : Prop := ∀ j i, i < vd_ln j → K j i ≤ vd_ub j
theorem vd_Bd.st {K : KT} {j i x : Nat} (h : vd_Bd K) (hx : x ≤ vd_ub j) : vd_Bd (vd_st K j i x) := by
  intro a b hb
  by_cases ha : a = j
  · subst ha
    rw [vd_st_s]
    show (if b = i then x else K a b) ≤ vd_ub a
    split
    · exact hx
    · exact h a b hb
  · rw [vd_st_o ha]
    exact h a b hb
theorem vd_Bd.sa {K : KT} {j : Nat} {G : Nat → Nat} (h : vd_Bd K) (hx : ∀ b, b < vd_ln j → G b ≤ vd_ub j) : vd_Bd (vd_sa K j G) := by
  intro a b hb
  by_cases ha : a = j
  · subst ha
    rw [vd_sa_s]
    exact hx b hb
  · rw [vd_sa_o ha]
    exact h a b hb
theorem vd_ln_lt : ∀ j, vd_ln j < 2 ^ 31
  | 0 => by decide | 1 => by decide | 2 => by decide | 3 => by decide | 4 => by decide | 5 => by decide | 6 => by decide | 7 => by decide | 8 => by decide | 9 => by decide | 10 => by decide | 11 => by decide | 12 => by decide | 13 => by decide | 14 => by decide | 15 => by decide | 16 => by decide | 17 => by decide | 18 => by decide | 19 => by decide | 20 => by decide | 21 => by decide | 22 => by decide
  | _ + 23 => by show 1 < 2 ^ 31; decide
def vd_tys (D : va_G) : List (ClassId × FieldType) := [(D.1 50, .int), (D.1 51, .boolean), (D.1 52, .long)]
def vd_Ad (ad : Nat → Nat) (q : Nat) : Prop := ∃ j, (j < 23 ∨ (30 ≤ j ∧ j < 36)) ∧ q = ad j
def vd_wd (D : va_G) (ad : Nat → Nat) (K : KT) : va_W := [(ad 30, .inr (3, [.ref (ad 31), .ref (ad 0), .ref (ad 1), .ref (ad 2), .ref (ad 3), .int (nI (K 40 0)), .int (nI (K 41 0)), .int (nI (K 42 0))])),
  (ad 31, .inr (2, [.ref (ad 32), .ref (ad 33), .ref (ad 34), .ref (ad 4), .ref (ad 5), .ref (ad 6), .ref (ad 7), .ref (ad 8), .int (nI (K 43 0)), .int (nI (K 44 0))])),
  (ad 32, .inr (0, [.ref (ad 9)])),
  (ad 33, .inr (1, [.ref (ad 10), .ref (ad 11), .int (nI (K 45 0))])),
  (ad 34, .inr (1, [.ref (ad 12), .ref (ad 13), .int (nI (K 46 0))])),
  (ad 35, .inr (4, [.ref (ad 14), .ref (ad 15), .ref (ad 16), .ref (ad 17), .int (nI (K 47 0)), .ref (ad 18), .int (nI (K 48 0)), .int (nI (K 49 0)), .ref (ad 19), .ref (ad 20), .ref (ad 21), .ref (ad 22)])),
  (ad 0, .inl (D.1 50, 16, .inl (fun b => nI (K 0 b)))),
  (ad 1, .inl (D.1 50, 16, .inl (fun b => nI (K 1 b)))),
  (ad 2, .inl (D.1 50, 16, .inl (fun b => nI (K 2 b)))),
  (ad 3, .inl (D.1 50, 6, .inl (fun b => nI (K 3 b)))),
  (ad 4, .inl (D.1 50, 31, .inl (fun b => nI (K 4 b)))),
  (ad 5, .inl (D.1 50, 31, .inl (fun b => nI (K 5 b)))),
  (ad 6, .inl (D.1 50, 31, .inl (fun b => nI (K 6 b)))),
  (ad 7, .inl (D.1 50, 31, .inl (fun b => nI (K 7 b)))),
  (ad 8, .inl (D.1 50, 4, .inl (fun b => nI (K 8 b)))),
  (ad 9, .inl (D.1 52, 157, .inr (.inl (fun b => lN (K 9 b))))),
  (ad 10, .inl (D.1 50, 484, .inl (fun b => nI (K 10 b)))),
  (ad 11, .inl (D.1 51, 121, .inl (fun b => nI (K 11 b)))),
  (ad 12, .inl (D.1 50, 124, .inl (fun b => nI (K 12 b)))),
  (ad 13, .inl (D.1 51, 31, .inl (fun b => nI (K 13 b)))),
  (ad 14, .inl (D.1 50, 544, .inl (fun b => nI (K 14 b)))),
  (ad 15, .inl (D.1 51, 31, .inl (fun b => nI (K 15 b)))),
  (ad 16, .inl (D.1 50, 31, .inl (fun b => nI (K 16 b)))),
  (ad 17, .inl (D.1 50, 31, .inl (fun b => nI (K 17 b)))),
  (ad 18, .inl (D.1 50, 6, .inl (fun b => nI (K 18 b)))),
  (ad 19, .inl (D.1 51, 16, .inl (fun b => nI (K 19 b)))),
  (ad 20, .inl (D.1 51, 10000, .inl (fun b => nI (K 20 b)))),
  (ad 21, .inl (D.1 51, 31, .inl (fun b => nI (K 21 b)))),
  (ad 22, .inl (D.1 51, 31, .inl (fun b => nI (K 22 b))))]
theorem vd_at_i (D : va_G) (ad : Nat → Nat) (K : KT) : ∀ j, vd_kn j = 0 → (vd_wd D ad K)[6 + j]? = some (ad j, .inl (D.1 50, vd_ln j, .inl (fun b => nI (K j b))))
  | 0, _ => rfl
  | 1, _ => rfl
  | 2, _ => rfl
  | 3, _ => rfl
  | 4, _ => rfl
  | 5, _ => rfl
  | 6, _ => rfl
  | 7, _ => rfl
  | 8, _ => rfl
  | 9, h => absurd h (by decide)
  | 10, _ => rfl
  | 11, h => absurd h (by decide)
  | 12, _ => rfl
  | 13, h => absurd h (by decide)
  | 14, _ => rfl
  | 15, h => absurd h (by decide)
  | 16, _ => rfl
  | 17, _ => rfl
  | 18, _ => rfl
  | 19, h => absurd h (by decide)
  | 20, h => absurd h (by decide)
  | 21, h => absurd h (by decide)
  | 22, h => absurd h (by decide)
  | j + 23, h => absurd (show (9 : Nat) = 0 from h) (by decide)
theorem vd_set_i (D : va_G) (ad : Nat → Nat) (K : KT) (G : Nat → Nat) : ∀ j, vd_kn j = 0 → (vd_wd D ad K).set (6 + j) (ad j, .inl (D.1 50, vd_ln j, .inl (fun b => nI (G b)))) = vd_wd D ad (vd_sa K j G)
  | 0, _ => rfl
  | 1, _ => rfl
  | 2, _ => rfl
  | 3, _ => rfl
  | 4, _ => rfl
  | 5, _ => rfl
  | 6, _ => rfl
  | 7, _ => rfl
  | 8, _ => rfl
  | 9, h => absurd h (by decide)
  | 10, _ => rfl
  | 11, h => absurd h (by decide)
  | 12, _ => rfl
  | 13, h => absurd h (by decide)
  | 14, _ => rfl
  | 15, h => absurd h (by decide)
  | 16, _ => rfl
  | 17, _ => rfl
  | 18, _ => rfl
  | 19, h => absurd h (by decide)
  | 20, h => absurd h (by decide)
  | 21, h => absurd h (by decide)
  | 22, h => absurd h (by decide)
  | j + 23, h => absurd (show (9 : Nat) = 0 from h) (by decide)
theorem vd_at_z (D : va_G) (ad : Nat → Nat) (K : KT) : ∀ j, vd_kn j = 1 → (vd_wd D ad K)[6 + j]? = some (ad j, .inl (D.1 51, vd_ln j, .inl (fun b => nI (K j b))))
  | 0, h => absurd h (by decide)
  | 1, h => absurd h (by decide)
  | 2, h => absurd h (by decide)
  | 3, h => absurd h (by decide)
  | 4, h => absurd h (by decide)
  | 5, h => absurd h (by decide)
  | 6, h => absurd h (by decide)
  | 7, h => absurd h (by decide)
  | 8, h => absurd h (by decide)
  | 9, h => absurd h (by decide)
  | 10, h => absurd h (by decide)
  | 11, _ => rfl
  | 12, h => absurd h (by decide)
  | 13, _ => rfl
  | 14, h => absurd h (by decide)
  | 15, _ => rfl
  | 16, h => absurd h (by decide)
  | 17, h => absurd h (by decide)
  | 18, h => absurd h (by decide)
  | 19, _ => rfl
  | 20, _ => rfl
  | 21, _ => rfl
  | 22, _ => rfl
  | j + 23, h => absurd (show (9 : Nat) = 1 from h) (by decide)
theorem vd_set_z (D : va_G) (ad : Nat → Nat) (K : KT) (G : Nat → Nat) : ∀ j, vd_kn j = 1 → (vd_wd D ad K).set (6 + j) (ad j, .inl (D.1 51, vd_ln j, .inl (fun b => nI (G b)))) = vd_wd D ad (vd_sa K j G)
  | 0, h => absurd h (by decide)
  | 1, h => absurd h (by decide)
  | 2, h => absurd h (by decide)
  | 3, h => absurd h (by decide)
  | 4, h => absurd h (by decide)
  | 5, h => absurd h (by decide)
  | 6, h => absurd h (by decide)
  | 7, h => absurd h (by decide)
  | 8, h => absurd h (by decide)
  | 9, h => absurd h (by decide)
  | 10, h => absurd h (by decide)
  | 11, _ => rfl
  | 12, h => absurd h (by decide)
  | 13, _ => rfl
  | 14, h => absurd h (by decide)
  | 15, _ => rfl
  | 16, h => absurd h (by decide)
  | 17, h => absurd h (by decide)
  | 18, h => absurd h (by decide)
  | 19, _ => rfl
  | 20, _ => rfl
  | 21, _ => rfl
  | 22, _ => rfl
  | j + 23, h => absurd (show (9 : Nat) = 1 from h) (by decide)
theorem vd_at_l (D : va_G) (ad : Nat → Nat) (K : KT) : ∀ j, vd_kn j = 2 → (vd_wd D ad K)[6 + j]? = some (ad j, .inl (D.1 52, vd_ln j, .inr (.inl (fun b => lN (K j b)))))
  | 0, h => absurd h (by decide)
  | 1, h => absurd h (by decide)
  | 2, h => absurd h (by decide)
  | 3, h => absurd h (by decide)
  | 4, h => absurd h (by decide)
  | 5, h => absurd h (by decide)
  | 6, h => absurd h (by decide)
  | 7, h => absurd h (by decide)
  | 8, h => absurd h (by decide)
  | 9, _ => rfl
  | 10, h => absurd h (by decide)
  | 11, h => absurd h (by decide)
  | 12, h => absurd h (by decide)
  | 13, h => absurd h (by decide)
  | 14, h => absurd h (by decide)
  | 15, h => absurd h (by decide)
  | 16, h => absurd h (by decide)
  | 17, h => absurd h (by decide)
  | 18, h => absurd h (by decide)
  | 19, h => absurd h (by decide)
  | 20, h => absurd h (by decide)
  | 21, h => absurd h (by decide)
  | 22, h => absurd h (by decide)
  | j + 23, h => absurd (show (9 : Nat) = 2 from h) (by decide)
theorem vd_set_l (D : va_G) (ad : Nat → Nat) (K : KT) (G : Nat → Nat) : ∀ j, vd_kn j = 2 → (vd_wd D ad K).set (6 + j) (ad j, .inl (D.1 52, vd_ln j, .inr (.inl (fun b => lN (G b))))) = vd_wd D ad (vd_sa K j G)
  | 0, h => absurd h (by decide)
  | 1, h => absurd h (by decide)
  | 2, h => absurd h (by decide)
  | 3, h => absurd h (by decide)
  | 4, h => absurd h (by decide)
  | 5, h => absurd h (by decide)
  | 6, h => absurd h (by decide)
  | 7, h => absurd h (by decide)
  | 8, h => absurd h (by decide)
  | 9, _ => rfl
  | 10, h => absurd h (by decide)
  | 11, h => absurd h (by decide)
  | 12, h => absurd h (by decide)
  | 13, h => absurd h (by decide)
  | 14, h => absurd h (by decide)
  | 15, h => absurd h (by decide)
  | 16, h => absurd h (by decide)
  | 17, h => absurd h (by decide)
  | 18, h => absurd h (by decide)
  | 19, h => absurd h (by decide)
  | 20, h => absurd h (by decide)
  | 21, h => absurd h (by decide)
  | 22, h => absurd h (by decide)
  | j + 23, h => absurd (show (9 : Nat) = 2 from h) (by decide)
def vd_b (b : Bool) : Int32 := nI b.toNat
theorem vd_b_t : vd_b true = nI 1 := rfl
theorem vd_b_f : vd_b false = nI 0 := rfl
def vd_Cx (p : Program) (s : State) (m : MethodId) (c : Code) (cc : ByteArray) (nL : Nat) (args : Array Value) (own : String) (D : va_G) : Prop :=
  p.tables.exec = Jvm.exec ∧ c.code = cc ∧ c.maxLocals = nL ∧ s.vm.findClass own = some m.cls ∧ (∀ w ∈ vd_tbl, w.before args s = true) ∧ va_K D vwCl (vd_tys D) s
def vd_WS (D : va_G) (ad : Nat → Nat) (s : State) (K : KT) (H : Heap) (locs : List Loc) : Prop :=
  va_P D vwCl (vd_wd D ad K) H ∧ va_D (vd_Ad ad) (vd_wd D ad K) ∧ va_S (vd_Ad ad) s.heap H locs ∧ vd_Bd K
def vd_St (D : va_G) (ad : Nat → Nat) (K : KT) (U : State) : Prop :=
  va_P D vwCl (vd_wd D ad K) U.heap ∧ va_K D vwCl (vd_tys D) U ∧ va_D (vd_Ad ad) (vd_wd D ad K) ∧ vd_Bd K
abbrev vd_R (d lo : Nat) : Room := { frames := d, cells := 0, slots := 0, locals := lo }
abbrev vd_QI (D : va_G) (ad : Nat → Nat) (post : Int32 → KT → Prop) : Array Value → State → Outcome → State → Prop := va_Qi post (fun K' t => vd_St D ad K' t) (vd_Ad ad)
abbrev vd_QV (D : va_G) (ad : Nat → Nat) (post : KT → Prop) : Array Value → State → Outcome → State → Prop := va_Qv post (fun K' t => vd_St D ad K' t) (vd_Ad ad)
def vd_MI (l : Launch) (y : MethodName) (cc : ByteArray) (maxL : Nat) (ret : Option FieldType) (d lo : Nat) (D : va_G) (ad : Nat → Nat) (As : List Value) (K : KT) (post : Int32 → KT → Prop) : Prop :=
  Met l y (Cond.code y cc maxL ret :: vd_tbl) (vd_R d lo) (va_Pc As (fun U => vd_St D ad K U)) (vd_QI D ad post) 0 0 (vd_Ad ad)
def vd_MV (l : Launch) (y : MethodName) (cc : ByteArray) (maxL : Nat) (d lo : Nat) (D : va_G) (ad : Nat → Nat) (As : List Value) (K : KT) (post : KT → Prop) : Prop :=
  Met l y (Cond.code y cc maxL none :: vd_tbl) (vd_R d lo) (va_Pc As (fun U => vd_St D ad K U)) (vd_QV D ad post) 0 0 (vd_Ad ad)
/-- what is known of a method's name: instance methods, static methods -/
def vd_MO (y : MethodName) (bytes : ByteArray) (maxL : Nat) (ret : Option FieldType) (n : Nat) : Prop :=
  y.cls ≠ "java/lang/invoke/MethodHandle" ∧ y.cls ≠ "java/lang/invoke/VarHandle" ∧ (parseMethodDescriptor y.desc).map (fun d => d.parameters.length) = some n ∧ Cond.code y bytes maxL ret ∈ vd_tbl ∧ Cond.initialized y.cls ∈ vd_tbl
theorem vd_gd (h : vd_tbl.all goodWord = true) {y : MethodName} {bytes : ByteArray} {maxL : Nat} {ret : Option FieldType} (hc : Cond.code y bytes maxL ret ∈ vd_tbl) : GoodIn vd_tbl (Cond.code y bytes maxL ret :: vd_tbl) := by
  intro w hw
  have h1 : w ∈ vd_tbl := by
    rcases List.mem_cons.mp hw with rfl | h2
    · exact hc
    · exact h2
  exact ⟨h1, good_of_word (List.all_eq_true.mp h w h1)⟩
theorem vd_good : vd_tbl.all goodWord = true := List.all_eq_true.mpr (fun _ h => (List.mem_filter.mp h).2)
theorem vd_upd_i (K : KT) (j i x : Nat) : upd (fun b => nI (K j b)) i (nI x) = fun b => nI ((fun b => if b = i then x else K j b) b) := by
  funext b
  show (if b = i then nI x else nI (K j b)) = nI (if b = i then x else K j b)
  split <;> rfl
theorem vd_upd_l (K : KT) (j i x : Nat) : vp_updL (fun b => lN (K j b)) i (lN x) = fun b => lN ((fun b => if b = i then x else K j b) b) := by
  funext b
  show (if b = i then lN x else lN (K j b)) = lN (if b = i then x else K j b)
  split <;> rfl
theorem vd_nz : ∀ x, x ≤ 1 → vp_nar .boolean (nI x) = nI x := by
  intro x h
  rcases (show x = 0 ∨ x = 1 by omega) with rfl | rfl <;> decide
theorem vd_inc (a k : Nat) : nI a + Int32.ofInt (k : Int) = nI (a + k) := by
  rw [← nI_add]
  rfl
theorem vd_dec (a : Nat) : nI (a + 1) + Int32.ofInt (-1) = nI a := pk_m1 a
theorem vd_and (a b : Nat) : nI a &&& nI b = nI (a &&& b) := by
  apply Int32.toBitVec_inj.1
  show BitVec.ofNat 32 a &&& BitVec.ofNat 32 b = BitVec.ofNat 32 (a &&& b)
  apply BitVec.eq_of_getLsbD_eq
  intro i hi
  simp [hi]
theorem vd_or (a b : Nat) : nI a ||| nI b = nI (a ||| b) := by
  apply Int32.toBitVec_inj.1
  show BitVec.ofNat 32 a ||| BitVec.ofNat 32 b = BitVec.ofNat 32 (a ||| b)
  apply BitVec.eq_of_getLsbD_eq
  intro i hi
  simp [hi]
theorem vd_shl : ∀ y, y < 31 → nI 1 <<< (nI y &&& 31) = nI (2 ^ y) := by decide +kernel
theorem vd_cpy (K : KT) (j0 j1 sp dp n : Nat) : va_cpy (fun b => nI (K j0 b)) (fun b => nI (K j1 b)) sp dp n = fun b => nI ((fun b => if dp ≤ b ∧ b < dp + n then (fun b => K j0 (sp + b)) (b - dp) else K j1 b) b) := by
  funext b
  show (if dp ≤ b ∧ b < dp + n then nI (K j0 (sp + (b - dp))) else nI (K j1 b)) = nI (if dp ≤ b ∧ b < dp + n then K j0 (sp + (b - dp)) else K j1 b)
  split <;> rfl
theorem vd_wNat : Cond.native arraycopyName ∈ vd_tbl := vd_mt (by decide +kernel) (by decide +kernel)
theorem vd_wSta : Cond.static arraycopyName ∈ vd_tbl := vd_mt (by decide +kernel) (by decide +kernel)
theorem vd_wIni : Cond.initialized "java/lang/System" ∈ vd_tbl := vd_mt (by decide +kernel) (by decide +kernel)
section VDR
variable {p : Program} {l : Launch} {e : Env} {R : Room} {s : State} {m : MethodId} {args : Array Value} {below : List Frame} {meth : Method} {c : Code} {H : Heap} {locs : List Loc} {Q : State → Prop}
variable {cells slots : Nat} {cc : ByteArray} {pc nL : Nat} {ls : Array Slot} {rest : List Value} {own : String} {D : va_G} {ad : Nat → Nat} {K : KT}
theorem vd_iald (CX : vd_Cx p s m c cc nL args own D) (HW : vd_WS D ad s K H locs) {j i : Nat} (hj : vd_kn j = 0) (hi : i < vd_ln j) (hdg : decode cc pc = .ok (.iaload, 1))
    (kk : K j i ≤ vd_ub j → W p l e R s m args below meth c H locs cells slots Q (F0 m (pc + 1) ls (.int (nI (K j i)) :: rest))) : W p l e R s m args below meth c H locs cells slots Q (F0 m pc ls (.int (nI i) :: .ref (ad j) :: rest)) := by
  obtain ⟨hx, hb, -, -, -, hK⟩ := CX
  have hc : (nI i).toNatClampNeg = i := nI_clamp (Nat.lt_trans hi (vd_ln_lt j))
  have k2 := kk (HW.2.2.2 j i hi)
  refine va_iald (i := nI i) hx hb hK HW.1 (6 + j) 0 (vd_at_i D ad K j hj) rfl (vp_in_nI hi (vd_ln_lt j)) hdg ?_
  rw [hc]
  exact k2
theorem vd_zald (CX : vd_Cx p s m c cc nL args own D) (HW : vd_WS D ad s K H locs) {j i : Nat} (hj : vd_kn j = 1) (hi : i < vd_ln j) (hdg : decode cc pc = .ok (.baload, 1))
    (kk : K j i ≤ vd_ub j → W p l e R s m args below meth c H locs cells slots Q (F0 m (pc + 1) ls (.int (nI (K j i)) :: rest))) : W p l e R s m args below meth c H locs cells slots Q (F0 m pc ls (.int (nI i) :: .ref (ad j) :: rest)) := by
  obtain ⟨hx, hb, -, -, -, hK⟩ := CX
  have hc : (nI i).toNatClampNeg = i := nI_clamp (Nat.lt_trans hi (vd_ln_lt j))
  have k2 := kk (HW.2.2.2 j i hi)
  refine va_zald (i := nI i) hx hb hK HW.1 (6 + j) 1 (vd_at_z D ad K j hj) rfl (vp_in_nI hi (vd_ln_lt j)) hdg ?_
  rw [hc]
  exact k2
theorem vd_lald (CX : vd_Cx p s m c cc nL args own D) (HW : vd_WS D ad s K H locs) {j i : Nat} (hj : vd_kn j = 2) (hi : i < vd_ln j) (hdg : decode cc pc = .ok (.laload, 1))
    (kk : K j i ≤ vd_ub j → W p l e R s m args below meth c H locs cells slots Q (F0 m (pc + 1) ls (.long (lN (K j i)) :: rest))) : W p l e R s m args below meth c H locs cells slots Q (F0 m pc ls (.int (nI i) :: .ref (ad j) :: rest)) := by
  obtain ⟨hx, hb, -, -, -, hK⟩ := CX
  have hc : (nI i).toNatClampNeg = i := nI_clamp (Nat.lt_trans hi (vd_ln_lt j))
  have k2 := kk (HW.2.2.2 j i hi)
  refine va_lald (i := nI i) hx hb hK HW.1 (6 + j) 2 (vd_at_l D ad K j hj) rfl (vp_in_nI hi (vd_ln_lt j)) hdg ?_
  rw [hc]
  exact k2
theorem vd_iast (CX : vd_Cx p s m c cc nL args own D) (HW : vd_WS D ad s K H locs) {j i x : Nat} (hj : vd_kn j = 0) (hi : i < vd_ln j) (hv : x ≤ vd_ub j) (hdg : decode cc pc = .ok (.iastore, 1))
    (kk : ∀ (K' : KT) (H' : Heap) (locs' : List Loc), K' = vd_st K j i x → vd_WS D ad s K' H' locs' → W p l e R s m args below meth c H' locs' cells slots Q (F0 m (pc + 1) ls rest)) : W p l e R s m args below meth c H locs cells slots Q (F0 m pc ls (.int (nI x) :: .int (nI i) :: .ref (ad j) :: rest)) := by
  obtain ⟨hx, hb, -, -, -, hK⟩ := CX
  obtain ⟨hP, hD, hS, hB⟩ := HW
  have hc : (nI i).toNatClampNeg = i := nI_clamp (Nat.lt_trans hi (vd_ln_lt j))
  refine va_iast (i := nI i) (x := nI x) hx hb hK hP hD hS (6 + j) 0 (vd_at_i D ad K j hj) rfl (vp_in_nI hi (vd_ln_lt j)) hdg (fun H1 locs1 h1 h2 h3 => ?_)
  rw [hc, vd_upd_i, vd_set_i D ad K _ j hj] at h1 h2
  exact kk _ H1 locs1 rfl ⟨h1, h2, h3, hB.st hv⟩
theorem vd_zast (CX : vd_Cx p s m c cc nL args own D) (HW : vd_WS D ad s K H locs) {j i x : Nat} (hj : vd_kn j = 1) (hi : i < vd_ln j) (hv : x ≤ 1) (hu : x ≤ vd_ub j) (hdg : decode cc pc = .ok (.bastore, 1))
    (kk : ∀ (K' : KT) (H' : Heap) (locs' : List Loc), K' = vd_st K j i x → vd_WS D ad s K' H' locs' → W p l e R s m args below meth c H' locs' cells slots Q (F0 m (pc + 1) ls rest)) : W p l e R s m args below meth c H locs cells slots Q (F0 m pc ls (.int (nI x) :: .int (nI i) :: .ref (ad j) :: rest)) := by
  obtain ⟨hx, hb, -, -, -, hK⟩ := CX
  obtain ⟨hP, hD, hS, hB⟩ := HW
  have hc : (nI i).toNatClampNeg = i := nI_clamp (Nat.lt_trans hi (vd_ln_lt j))
  refine va_zast (i := nI i) (x := nI x) hx hb hK hP hD hS (6 + j) 1 (vd_at_z D ad K j hj) rfl (vp_in_nI hi (vd_ln_lt j)) hdg (fun H1 locs1 h1 h2 h3 => ?_)
  rw [hc, vd_nz x hv, vd_upd_i, vd_set_z D ad K _ j hj] at h1 h2
  exact kk _ H1 locs1 rfl ⟨h1, h2, h3, hB.st hu⟩
theorem vd_last (CX : vd_Cx p s m c cc nL args own D) (HW : vd_WS D ad s K H locs) {j i x : Nat} (hj : vd_kn j = 2) (hi : i < vd_ln j) (hv : x ≤ vd_ub j) (hdg : decode cc pc = .ok (.lastore, 1))
    (kk : ∀ (K' : KT) (H' : Heap) (locs' : List Loc), K' = vd_st K j i x → vd_WS D ad s K' H' locs' → W p l e R s m args below meth c H' locs' cells slots Q (F0 m (pc + 1) ls rest)) : W p l e R s m args below meth c H locs cells slots Q (F0 m pc ls (.long (lN x) :: .int (nI i) :: .ref (ad j) :: rest)) := by
  obtain ⟨hx, hb, -, -, -, hK⟩ := CX
  obtain ⟨hP, hD, hS, hB⟩ := HW
  have hc : (nI i).toNatClampNeg = i := nI_clamp (Nat.lt_trans hi (vd_ln_lt j))
  refine va_last (i := nI i) (x := lN x) hx hb hK hP hD hS (6 + j) 2 (vd_at_l D ad K j hj) rfl (vp_in_nI hi (vd_ln_lt j)) hdg (fun H1 locs1 h1 h2 h3 => ?_)
  rw [hc, vd_upd_l, vd_set_l D ad K _ j hj] at h1 h2
  exact kk _ H1 locs1 rfl ⟨h1, h2, h3, hB.st hv⟩
theorem vd_alen1 (CX : vd_Cx p s m c cc nL args own D) (HW : vd_WS D ad s K H locs) {j : Nat} (hj : vd_kn j = 1) (hdg : decode cc pc = .ok (.arraylength, 1))
    (kk : W p l e R s m args below meth c H locs cells slots Q (F0 m (pc + 1) ls (.int (nI (vd_ln j)) :: rest))) : W p l e R s m args below meth c H locs cells slots Q (F0 m pc ls (.ref (ad j) :: rest)) := by
  obtain ⟨hx, hb, -, -, -, hK⟩ := CX
  exact va_alen hx hb hK HW.1 (6 + j) 1 (vd_at_z D ad K j hj) rfl rfl hdg kk
theorem vd_alen2 (CX : vd_Cx p s m c cc nL args own D) (HW : vd_WS D ad s K H locs) {j : Nat} (hj : vd_kn j = 2) (hdg : decode cc pc = .ok (.arraylength, 1))
    (kk : W p l e R s m args below meth c H locs cells slots Q (F0 m (pc + 1) ls (.int (nI (vd_ln j)) :: rest))) : W p l e R s m args below meth c H locs cells slots Q (F0 m pc ls (.ref (ad j) :: rest)) := by
  obtain ⟨hx, hb, -, -, -, hK⟩ := CX
  exact va_alen hx hb hK HW.1 (6 + j) 2 (vd_at_l D ad K j hj) rfl rfl hdg kk
theorem vd_iadd (hx : p.tables.exec = Jvm.exec) (hb : c.code = cc) {x y : Nat} (hdg : decode cc pc = .ok (.iadd, 1)) (k : W p l e R s m args below meth c H locs cells slots Q (F0 m (pc + 1) ls (.int (nI (x + y)) :: rest))) : W p l e R s m args below meth c H locs cells slots Q (F0 m pc ls (.int (nI y) :: .int (nI x) :: rest)) := lv_iadd hx hb hdg (by rw [nI_add]; exact k)
theorem vd_imul (hx : p.tables.exec = Jvm.exec) (hb : c.code = cc) {x y : Nat} (hdg : decode cc pc = .ok (.imul, 1)) (k : W p l e R s m args below meth c H locs cells slots Q (F0 m (pc + 1) ls (.int (nI (x * y)) :: rest))) : W p l e R s m args below meth c H locs cells slots Q (F0 m pc ls (.int (nI y) :: .int (nI x) :: rest)) := lv_imul hx hb hdg (by rw [pk_mul]; exact k)
theorem vd_isub (hx : p.tables.exec = Jvm.exec) (hb : c.code = cc) {x y : Nat} (h : y ≤ x) (hdg : decode cc pc = .ok (.isub, 1)) (k : W p l e R s m args below meth c H locs cells slots Q (F0 m (pc + 1) ls (.int (nI (x - y)) :: rest))) : W p l e R s m args below meth c H locs cells slots Q (F0 m pc ls (.int (nI y) :: .int (nI x) :: rest)) := lv_isub hx hb hdg (by rw [pk_sub h]; exact k)
theorem vd_idiv (hx : p.tables.exec = Jvm.exec) (hb : c.code = cc) {x y : Nat} (h1 : x < 2 ^ 31) (h2 : 0 < y) (h3 : y < 2 ^ 31) (hdg : decode cc pc = .ok (.idiv, 1)) (k : W p l e R s m args below meth c H locs cells slots Q (F0 m (pc + 1) ls (.int (nI (x / y)) :: rest))) : W p l e R s m args below meth c H locs cells slots Q (F0 m pc ls (.int (nI y) :: .int (nI x) :: rest)) := lv_idiv hx hb hdg (nI_ne0 h2 h3) (by rw [pk_div h1 h2 h3]; exact k)
theorem vd_irem (hx : p.tables.exec = Jvm.exec) (hb : c.code = cc) {x y : Nat} (h1 : x < 2 ^ 31) (h2 : 0 < y) (h3 : y < 2 ^ 31) (hdg : decode cc pc = .ok (.irem, 1)) (k : W p l e R s m args below meth c H locs cells slots Q (F0 m (pc + 1) ls (.int (nI (x % y)) :: rest))) : W p l e R s m args below meth c H locs cells slots Q (F0 m pc ls (.int (nI y) :: .int (nI x) :: rest)) := lv_irem hx hb hdg (nI_ne0 h2 h3) (by rw [pk_rem h1 h2 h3]; exact k)
theorem vd_iand (hx : p.tables.exec = Jvm.exec) (hb : c.code = cc) {x y : Nat} (hdg : decode cc pc = .ok (.iand, 1)) (k : W p l e R s m args below meth c H locs cells slots Q (F0 m (pc + 1) ls (.int (nI (x &&& y)) :: rest))) : W p l e R s m args below meth c H locs cells slots Q (F0 m pc ls (.int (nI y) :: .int (nI x) :: rest)) := lv_iand hx hb hdg (by rw [vd_and]; exact k)
theorem vd_ior (hx : p.tables.exec = Jvm.exec) (hb : c.code = cc) {x y : Nat} (hdg : decode cc pc = .ok (.ior, 1)) (k : W p l e R s m args below meth c H locs cells slots Q (F0 m (pc + 1) ls (.int (nI (x ||| y)) :: rest))) : W p l e R s m args below meth c H locs cells slots Q (F0 m pc ls (.int (nI y) :: .int (nI x) :: rest)) := lv_ior hx hb hdg (by rw [vd_or]; exact k)
theorem vd_shl1 (hx : p.tables.exec = Jvm.exec) (hb : c.code = cc) {y : Nat} (h : y < 31) (hdg : decode cc pc = .ok (.ishl, 1)) (k : W p l e R s m args below meth c H locs cells slots Q (F0 m (pc + 1) ls (.int (nI (2 ^ y)) :: rest))) : W p l e R s m args below meth c H locs cells slots Q (F0 m pc ls (.int (nI y) :: .int (nI 1) :: rest)) := lv_ishl hx hb hdg (by rw [vd_shl y h]; exact k)
theorem vd_if_eq (hx : p.tables.exec = Jvm.exec) (hb : c.code = cc) {x : Nat} {off : Int} {tgt : Nat} (hdg : decode cc pc = .ok (.ifCond .eq off, 3)) (ht : (pc : Int) + off = (tgt : Int)) (hn : x < 2 ^ 31)
    (kt : x = 0 → W p l e R s m args below meth c H locs cells slots Q (F0 m tgt ls rest)) (kf : x ≠ 0 → W p l e R s m args below meth c H locs cells slots Q (F0 m (pc + 3) ls rest)) : W p l e R s m args below meth c H locs cells slots Q (F0 m pc ls (.int (nI x) :: rest)) :=
  lv_if_eq hx hb hdg ht (fun h => kt ((nI_eq hn (by decide)).mp h)) (fun h => kf (fun h2 => h (by rw [h2]; rfl)))
theorem vd_if_ne (hx : p.tables.exec = Jvm.exec) (hb : c.code = cc) {x : Nat} {off : Int} {tgt : Nat} (hdg : decode cc pc = .ok (.ifCond .ne off, 3)) (ht : (pc : Int) + off = (tgt : Int)) (hn : x < 2 ^ 31)
    (kt : x ≠ 0 → W p l e R s m args below meth c H locs cells slots Q (F0 m tgt ls rest)) (kf : x = 0 → W p l e R s m args below meth c H locs cells slots Q (F0 m (pc + 3) ls rest)) : W p l e R s m args below meth c H locs cells slots Q (F0 m pc ls (.int (nI x) :: rest)) :=
  lv_if_ne hx hb hdg ht (fun h => kt (fun h2 => h (by rw [h2]; rfl))) (fun h => kf ((nI_eq hn (by decide)).mp h))
theorem vd_if_gt (hx : p.tables.exec = Jvm.exec) (hb : c.code = cc) {x : Nat} {off : Int} {tgt : Nat} (hdg : decode cc pc = .ok (.ifCond .gt off, 3)) (ht : (pc : Int) + off = (tgt : Int)) (hn : x < 2 ^ 31)
    (kt : x ≠ 0 → W p l e R s m args below meth c H locs cells slots Q (F0 m tgt ls rest)) (kf : x = 0 → W p l e R s m args below meth c H locs cells slots Q (F0 m (pc + 3) ls rest)) : W p l e R s m args below meth c H locs cells slots Q (F0 m pc ls (.int (nI x) :: rest)) :=
  lv_if_gt hx hb hdg ht (fun h => kt (fun h2 => by rw [h2] at h; exact absurd h (by decide))) (fun h => kf (Classical.byContradiction fun h2 => h (nI_lt (Nat.pos_of_ne_zero h2) hn)))
theorem vd_if_le (hx : p.tables.exec = Jvm.exec) (hb : c.code = cc) {x : Nat} {off : Int} {tgt : Nat} (hdg : decode cc pc = .ok (.ifCond .le off, 3)) (ht : (pc : Int) + off = (tgt : Int)) (hn : x < 2 ^ 31)
    (kt : x = 0 → W p l e R s m args below meth c H locs cells slots Q (F0 m tgt ls rest)) (kf : x ≠ 0 → W p l e R s m args below meth c H locs cells slots Q (F0 m (pc + 3) ls rest)) : W p l e R s m args below meth c H locs cells slots Q (F0 m pc ls (.int (nI x) :: rest)) :=
  lv_if_le hx hb hdg ht (fun h => kt (Classical.byContradiction fun h2 => nI_nle (Nat.pos_of_ne_zero h2) hn h)) (fun h => kf (fun h2 => h (by rw [h2]; decide)))
theorem vd_icmp_ge (hx : p.tables.exec = Jvm.exec) (hb : c.code = cc) {x y : Nat} {off : Int} {tgt : Nat} (hdg : decode cc pc = .ok (.if_icmp .ge off, 3)) (ht : (pc : Int) + off = (tgt : Int)) (h1 : x < 2 ^ 31) (h2 : y < 2 ^ 31)
    (kt : y ≤ x → W p l e R s m args below meth c H locs cells slots Q (F0 m tgt ls rest)) (kf : x < y → W p l e R s m args below meth c H locs cells slots Q (F0 m (pc + 3) ls rest)) : W p l e R s m args below meth c H locs cells slots Q (F0 m pc ls (.int (nI y) :: .int (nI x) :: rest)) :=
  lv_icmp_ge hx hb hdg ht (fun h => kt ((nI_leI h2 h1).mp h)) (fun h => kf (Nat.lt_of_not_le fun q => h ((nI_leI h2 h1).mpr q)))
theorem vd_icmp_gt (hx : p.tables.exec = Jvm.exec) (hb : c.code = cc) {x y : Nat} {off : Int} {tgt : Nat} (hdg : decode cc pc = .ok (.if_icmp .gt off, 3)) (ht : (pc : Int) + off = (tgt : Int)) (h1 : x < 2 ^ 31) (h2 : y < 2 ^ 31)
    (kt : y < x → W p l e R s m args below meth c H locs cells slots Q (F0 m tgt ls rest)) (kf : x ≤ y → W p l e R s m args below meth c H locs cells slots Q (F0 m (pc + 3) ls rest)) : W p l e R s m args below meth c H locs cells slots Q (F0 m pc ls (.int (nI y) :: .int (nI x) :: rest)) :=
  lv_icmp_gt hx hb hdg ht (fun h => kt ((nI_ltI h2 h1).mp h)) (fun h => kf (Nat.le_of_not_lt fun q => h ((nI_ltI h2 h1).mpr q)))
theorem vd_icmp_lt (hx : p.tables.exec = Jvm.exec) (hb : c.code = cc) {x y : Nat} {off : Int} {tgt : Nat} (hdg : decode cc pc = .ok (.if_icmp .lt off, 3)) (ht : (pc : Int) + off = (tgt : Int)) (h1 : x < 2 ^ 31) (h2 : y < 2 ^ 31)
    (kt : x < y → W p l e R s m args below meth c H locs cells slots Q (F0 m tgt ls rest)) (kf : y ≤ x → W p l e R s m args below meth c H locs cells slots Q (F0 m (pc + 3) ls rest)) : W p l e R s m args below meth c H locs cells slots Q (F0 m pc ls (.int (nI y) :: .int (nI x) :: rest)) :=
  lv_icmp_lt hx hb hdg ht (fun h => kt ((nI_ltI h1 h2).mp h)) (fun h => kf (Nat.le_of_not_lt fun q => h ((nI_ltI h1 h2).mpr q)))
theorem vd_icmp_le (hx : p.tables.exec = Jvm.exec) (hb : c.code = cc) {x y : Nat} {off : Int} {tgt : Nat} (hdg : decode cc pc = .ok (.if_icmp .le off, 3)) (ht : (pc : Int) + off = (tgt : Int)) (h1 : x < 2 ^ 31) (h2 : y < 2 ^ 31)
    (kt : x ≤ y → W p l e R s m args below meth c H locs cells slots Q (F0 m tgt ls rest)) (kf : y < x → W p l e R s m args below meth c H locs cells slots Q (F0 m (pc + 3) ls rest)) : W p l e R s m args below meth c H locs cells slots Q (F0 m pc ls (.int (nI y) :: .int (nI x) :: rest)) :=
  lv_icmp_le hx hb hdg ht (fun h => kt ((nI_leI h1 h2).mp h)) (fun h => kf (Nat.lt_of_not_le fun q => h ((nI_leI h1 h2).mpr q)))
theorem vd_icmp_eq (hx : p.tables.exec = Jvm.exec) (hb : c.code = cc) {x y : Nat} {off : Int} {tgt : Nat} (hdg : decode cc pc = .ok (.if_icmp .eq off, 3)) (ht : (pc : Int) + off = (tgt : Int)) (h1 : x < 2 ^ 31) (h2 : y < 2 ^ 31)
    (kt : x = y → W p l e R s m args below meth c H locs cells slots Q (F0 m tgt ls rest)) (kf : x ≠ y → W p l e R s m args below meth c H locs cells slots Q (F0 m (pc + 3) ls rest)) : W p l e R s m args below meth c H locs cells slots Q (F0 m pc ls (.int (nI y) :: .int (nI x) :: rest)) :=
  lv_icmp_eq hx hb hdg ht (fun h => kt ((nI_eq h1 h2).mp h)) (fun h => kf (fun q => h (by rw [q])))
theorem vd_icmp_ne (hx : p.tables.exec = Jvm.exec) (hb : c.code = cc) {x y : Nat} {off : Int} {tgt : Nat} (hdg : decode cc pc = .ok (.if_icmp .ne off, 3)) (ht : (pc : Int) + off = (tgt : Int)) (h1 : x < 2 ^ 31) (h2 : y < 2 ^ 31)
    (kt : x ≠ y → W p l e R s m args below meth c H locs cells slots Q (F0 m tgt ls rest)) (kf : x = y → W p l e R s m args below meth c H locs cells slots Q (F0 m (pc + 3) ls rest)) : W p l e R s m args below meth c H locs cells slots Q (F0 m pc ls (.int (nI y) :: .int (nI x) :: rest)) :=
  lv_icmp_ne hx hb hdg ht (fun h => kt (fun q => h (by rw [q]))) (fun h => kf ((nI_eq h1 h2).mp h))
theorem vd_ifb_eq (hx : p.tables.exec = Jvm.exec) (hb : c.code = cc) {b : Bool} {off : Int} {tgt : Nat} (hdg : decode cc pc = .ok (.ifCond .eq off, 3)) (ht : (pc : Int) + off = (tgt : Int))
    (kt : b = false → W p l e R s m args below meth c H locs cells slots Q (F0 m tgt ls rest)) (kf : b = true → W p l e R s m args below meth c H locs cells slots Q (F0 m (pc + 3) ls rest)) : W p l e R s m args below meth c H locs cells slots Q (F0 m pc ls (.int (vd_b b) :: rest)) := by
  cases b with
  | false => exact lv_if_eq hx hb hdg ht (fun _ => kt rfl) (fun h => absurd (by decide) h)
  | true => exact lv_if_eq hx hb hdg ht (fun h => absurd h (by decide)) (fun _ => kf rfl)
theorem vd_ifb_ne (hx : p.tables.exec = Jvm.exec) (hb : c.code = cc) {b : Bool} {off : Int} {tgt : Nat} (hdg : decode cc pc = .ok (.ifCond .ne off, 3)) (ht : (pc : Int) + off = (tgt : Int))
    (kt : b = true → W p l e R s m args below meth c H locs cells slots Q (F0 m tgt ls rest)) (kf : b = false → W p l e R s m args below meth c H locs cells slots Q (F0 m (pc + 3) ls rest)) : W p l e R s m args below meth c H locs cells slots Q (F0 m pc ls (.int (vd_b b) :: rest)) := by
  cases b with
  | false => exact lv_if_ne hx hb hdg ht (fun h => absurd (by decide) h) (fun _ => kf rfl)
  | true => exact lv_if_ne hx hb hdg ht (fun _ => kt rfl) (fun h => absurd h (by decide))
theorem vd_copy (CX : vd_Cx p s m c cc nL args own D) (HW : vd_WS D ad s K H locs) {j0 j1 sp dp n index : Nat} (h0 : vd_kn j0 = 0) (h1 : vd_kn j1 = 0) (hs : sp + n ≤ vd_ln j0) (hd : dp + n ≤ vd_ln j1) (hu : ∀ b, b < n → K j0 (sp + b) ≤ vd_ub j1) (hlk : Cond.methodLink own index arraycopyName ∈ vd_tbl) (hsz : ls.size = nL)
    (hf : 1 ≤ R.frames) (hlo : (rest.map fun v => v.category).sum + (nativeFrameWords "java/lang/System" "arraycopy" 5 + 11) ≤ R.locals) (hdg : decode cc pc = .ok (.invokestatic index, 3))
    (kk : ∀ (K' : KT) (H' : Heap) (locs' : List Loc), K' = vd_fl K j1 dp n (fun b => K j0 (sp + b)) → vd_WS D ad s K' H' locs' → W p l e R s m args below meth c H' locs' cells slots Q (F0 m (pc + 3) ls rest)) : W p l e R s m args below meth c H locs cells slots Q (F0 m pc ls (.int (nI n) :: .int (nI dp) :: .ref (ad j1) :: .int (nI sp) :: .ref (ad j0) :: rest)) := by
  obtain ⟨hx, hb, hml, hown, hts, hK⟩ := CX
  obtain ⟨hP, hD, hS, hB⟩ := HW
  have l0 := vd_ln_lt j0
  have l1 := vd_ln_lt j1
  have b1 : sp < 2 ^ 31 := by omega
  have b2 : dp < 2 ^ 31 := by omega
  have b3 : n < 2 ^ 31 := by omega
  have c1 : (nI sp).toNatClampNeg = sp := nI_clamp b1
  have c2 : (nI dp).toNatClampNeg = dp := nI_clamp b2
  have c3 : (nI n).toNatClampNeg = n := nI_clamp b3
  refine va_copyi (sp := nI sp) (dp := nI dp) (n := nI n) hx hb (hml.trans hsz.symm) hown (hts _ hlk) (hts _ vd_wNat) (hts _ vd_wSta) (hts _ vd_wIni) hK hP hD hS (6 + j0) (6 + j1) 0 0 (vd_at_i D ad K j0 h0) (vd_at_i D ad K j1 h1) rfl rfl rfl (nI_pos b1) (nI_pos b2) (nI_pos b3) (by rw [c1, c3]; exact hs) (by rw [c2, c3]; exact hd) (fun i _ => rfl) hf hlo hdg (fun H1 locs1 h1' h2' h3 => ?_)
  rw [c1, c2, c3, vd_cpy, vd_set_i D ad K _ j1 h1] at h1' h2'
  refine kk _ H1 locs1 rfl ⟨h1', h2', h3, hB.sa (fun b hb2 => ?_)⟩
  show (if dp ≤ b ∧ b < dp + n then K j0 (sp + (b - dp)) else K j1 b) ≤ vd_ub j1
  split
  · exact hu _ (by omega)
  · exact hB j1 b hb2
/-- calls: the whole world goes to the callee and comes back -/
theorem vd_blind {As : List Value} : FrameBlind (va_Pc As (fun U => vd_St D ad K U)) := fun a U g mk q => by
  obtain ⟨q0, qP, qK, qD, qB⟩ := q
  exact ⟨q0, qP, va_K.moved (u := U) (U := U.calling g mk a) (Vm.Alike.refl U.vm) qK, qD, qB⟩
theorem vd_callVi {y : MethodName} {bytes : ByteArray} {maxL d lo n index b : Nat} {ret : Option FieldType} {As st0 : List Value} {post : Int32 → KT → Prop} (CX : vd_Cx p s m c cc nL args own D) (HW : vd_WS D ad s K H locs)
    (hM : vd_MI l y bytes maxL ret d lo D ad (.ref b :: As) K post) (hy : vd_MO y bytes maxL ret n) (hin : Cond.instanceMethod y ∈ vd_tbl) (hse : Cond.selects y.cls y y ∈ vd_tbl) (hrc : ∃ cell : Cell, H[b]? = some cell ∧ cell.vm.isStatics = false ∧ s.vm.findClass y.cls = some cell.cls) (hlk : Cond.methodLink own index y ∈ vd_tbl)
    (hst : st0 = As.reverse ++ .ref b :: rest) (hn : As.length = n) (hR : d + 1 ≤ R.frames ∧ 8 + (maxL + 11) + lo ≤ R.locals) (hsz : ls.size = nL) (hW : (rest.map fun v => v.category).sum ≤ 8) (hdg : decode cc pc = .ok (.invokevirtual index, 3)) (hcs : cells ≤ R.cells ∧ slots ≤ R.slots)
    (kk : ∀ (r : Int32) (K' : KT) (H' : Heap) (locs' : List Loc), post r K' → vd_WS D ad s K' H' locs' → W p l e R s m args below meth c H' locs' cells slots Q (F0 m (pc + 3) ls (.int r :: rest))) : W p l e R s m args below meth c H locs cells slots Q (F0 m pc ls st0) := by
  obtain ⟨hx, hb, hml, hown, hts, hK⟩ := CX
  obtain ⟨hP, hD, hS, hB⟩ := HW
  obtain ⟨y1, y2, y3, y4, y5⟩ := hy
  have cw : CallW R s args own y.cls index y bytes maxL ret (Cond.code y bytes maxL ret :: vd_tbl) (vd_R d lo) 0 0 n := ⟨callB_of n hts (vd_gd vd_good y4) rfl rfl rfl (hts _ y5) (hts _ hlk) ⟨y1, y2, y3⟩ hR, hts _ hin, hts _ hse⟩
  refine va_calli (va_runV (As := As) (rest := rest) ⟨hx, hb, hml, hown, hts⟩ hM cw ⟨vd_blind, hrc, fun U hU hW => ⟨rfl, by rw [hU]; exact hP, va_K.moved hW.alike hK, hD, hB⟩⟩ rfl hn hsz hst (lv_room hW) hdg hcs) hS (fun q _ h => h) (fun q h => h) (fun r u t H1 locs1 ht hvm hw hB1 hz1 hk1 hS1 => ?_)
  obtain ⟨g1, g2, g3, g4⟩ := hB1
  rw [ht] at g1
  exact kk r u H1 locs1 hw ⟨g1, g3, hS1, g4⟩
theorem vd_callVv {y : MethodName} {bytes : ByteArray} {maxL d lo n index b : Nat} {As st0 : List Value} {post : KT → Prop} (CX : vd_Cx p s m c cc nL args own D) (HW : vd_WS D ad s K H locs)
    (hM : vd_MV l y bytes maxL d lo D ad (.ref b :: As) K post) (hy : vd_MO y bytes maxL none n) (hin : Cond.instanceMethod y ∈ vd_tbl) (hse : Cond.selects y.cls y y ∈ vd_tbl) (hrc : ∃ cell : Cell, H[b]? = some cell ∧ cell.vm.isStatics = false ∧ s.vm.findClass y.cls = some cell.cls) (hlk : Cond.methodLink own index y ∈ vd_tbl)
    (hst : st0 = As.reverse ++ .ref b :: rest) (hn : As.length = n) (hR : d + 1 ≤ R.frames ∧ 8 + (maxL + 11) + lo ≤ R.locals) (hsz : ls.size = nL) (hW : (rest.map fun v => v.category).sum ≤ 8) (hdg : decode cc pc = .ok (.invokevirtual index, 3)) (hcs : cells ≤ R.cells ∧ slots ≤ R.slots)
    (kk : ∀ (K' : KT) (H' : Heap) (locs' : List Loc), post K' → vd_WS D ad s K' H' locs' → W p l e R s m args below meth c H' locs' cells slots Q (F0 m (pc + 3) ls rest)) : W p l e R s m args below meth c H locs cells slots Q (F0 m pc ls st0) := by
  obtain ⟨hx, hb, hml, hown, hts, hK⟩ := CX
  obtain ⟨hP, hD, hS, hB⟩ := HW
  obtain ⟨y1, y2, y3, y4, y5⟩ := hy
  have cw : CallW R s args own y.cls index y bytes maxL none (Cond.code y bytes maxL none :: vd_tbl) (vd_R d lo) 0 0 n := ⟨callB_of n hts (vd_gd vd_good y4) rfl rfl rfl (hts _ y5) (hts _ hlk) ⟨y1, y2, y3⟩ hR, hts _ hin, hts _ hse⟩
  refine va_callv (va_runV (As := As) (rest := rest) ⟨hx, hb, hml, hown, hts⟩ hM cw ⟨vd_blind, hrc, fun U hU hW => ⟨rfl, by rw [hU]; exact hP, va_K.moved hW.alike hK, hD, hB⟩⟩ rfl hn hsz hst (lv_room hW) hdg hcs) hS (fun q _ h => h) (fun q h => h) (fun u t H1 locs1 ht hvm hw hB1 hz1 hk1 hS1 => ?_)
  obtain ⟨g1, g2, g3, g4⟩ := hB1
  rw [ht] at g1
  exact kk u H1 locs1 hw ⟨g1, g3, hS1, g4⟩
theorem vd_callSi {y : MethodName} {bytes : ByteArray} {maxL d lo n index : Nat} {ret : Option FieldType} {As st0 : List Value} {post : Int32 → KT → Prop} (CX : vd_Cx p s m c cc nL args own D) (HW : vd_WS D ad s K H locs)
    (hM : vd_MI l y bytes maxL ret d lo D ad As K post) (hy : vd_MO y bytes maxL ret n) (hstt : Cond.static y ∈ vd_tbl) (hlk : Cond.methodLink own index y ∈ vd_tbl)
    (hst : st0 = As.reverse ++ rest) (hn : As.length = n) (hR : d + 1 ≤ R.frames ∧ 8 + (maxL + 11) + lo ≤ R.locals) (hsz : ls.size = nL) (hW : (rest.map fun v => v.category).sum ≤ 8) (hdg : decode cc pc = .ok (.invokestatic index, 3)) (hcs : cells ≤ R.cells ∧ slots ≤ R.slots)
    (kk : ∀ (r : Int32) (K' : KT) (H' : Heap) (locs' : List Loc), post r K' → vd_WS D ad s K' H' locs' → W p l e R s m args below meth c H' locs' cells slots Q (F0 m (pc + 3) ls (.int r :: rest))) : W p l e R s m args below meth c H locs cells slots Q (F0 m pc ls st0) := by
  obtain ⟨hx, hb, hml, hown, hts, hK⟩ := CX
  obtain ⟨hP, hD, hS, hB⟩ := HW
  obtain ⟨y1, y2, y3, y4, y5⟩ := hy
  have cw : CallB R s args own index y bytes maxL ret (Cond.code y bytes maxL ret :: vd_tbl) (vd_R d lo) 0 0 n ∧ (Cond.static y).before args s = true := ⟨callB_of n hts (vd_gd vd_good y4) rfl rfl rfl (hts _ y5) (hts _ hlk) ⟨y1, y2, y3⟩ hR, hts _ hstt⟩
  refine va_calli (va_runS (As := As) (rest := rest) ⟨hx, hb, hml, hown, hts⟩ hM cw ⟨vd_blind, fun U hU hW => ⟨rfl, by rw [hU]; exact hP, va_K.moved hW.alike hK, hD, hB⟩⟩ rfl hn hsz hst (lv_room hW) hdg hcs) hS (fun q _ h => h) (fun q h => h) (fun r u t H1 locs1 ht hvm hw hB1 hz1 hk1 hS1 => ?_)
  obtain ⟨g1, g2, g3, g4⟩ := hB1
  rw [ht] at g1
  exact kk r u H1 locs1 hw ⟨g1, g3, hS1, g4⟩
end VDR
/-- a method's entry: the walk of its body, with what a return needs -/
theorem vd_entI {l : Launch} {y : MethodName} {bytes : ByteArray} {maxL d lo : Nat} {D : va_G} {ad : Nat → Nat} {As : List Value} {K : KT} {post : Int32 → KT → Prop} (hyn : plainName y.cls = true) (hlen : (lg_sl As).length ≤ maxL) {lv : List (Nat × Value)} (hlv : lv_args 0 As = lv)
    (body : ∀ (p : Program) (e : Env) (s : State) (m : MethodId) (args : Array Value) (below : List Frame) (meth : Method) (c : Code) (ls : Array Slot) (Q : State → Prop), vd_Cx p s m c bytes maxL args y.cls D → lv_has ls maxL lv → ∀ (H : Heap) (locs : List Loc), vd_WS D ad s K H locs →
      (∀ (r : Int32) (K' : KT) (H : Heap) (locs : List Loc) (pc : Nat) (ls : Array Slot), decode bytes pc = .ok (.ireturn, 1) → post r K' → vd_WS D ad s K' H locs → W p l e (vd_R d lo) s m args below meth c H locs 0 0 Q (F0 m pc ls [.int r])) →
      W p l e (vd_R d lo) s m args below meth c H locs 0 0 Q (F0 m 0 ls [])) : vd_MI l y bytes maxL (some .int) d lo D ad As K post := by
  refine Met.ofW (cc := bytes) (maxL := maxL) (ret := some .int) hyn rfl ?_
  intro p e s m args below meth c s₁ B hml hv
  obtain ⟨rfl, hP, hK, hD, hB⟩ := hv
  have hts := atoms_spec (ws := Cond.code y bytes maxL (some .int) :: vd_tbl) B.pre
  have CX : vd_Cx p s m c bytes maxL As.toArray y.cls D := ⟨B.exec, B.bytes, hml, findClass_of_methodNamed B.named, fun w hw => hts w (List.mem_cons_of_mem _ hw), hK⟩
  have hl := lv_entry As (n := maxL) hlen
  rw [lg_entry_eq]
  rw [hlv] at hl
  refine body p e s m As.toArray below meth c _ _ CX hl _ _ ⟨hP, hD, va_S.rf, hB⟩ (fun r K' H locs pc ls hdg hp HW => ?_)
  exact W.iret (v := r) CX.1 CX.2.1 B.returns (fun t ht hW => ⟨⟨r, K', rfl, hp, by rw [ht]; exact HW.1, va_K.moved hW.alike hK, HW.2.1, HW.2.2.2⟩, HW.2.2.1.F ht⟩) HW.2.2.1.2.2 hdg B.notSynchronized
theorem vd_entZ {l : Launch} {y : MethodName} {bytes : ByteArray} {maxL d lo : Nat} {D : va_G} {ad : Nat → Nat} {As : List Value} {K : KT} {post : Int32 → KT → Prop} (hyn : plainName y.cls = true) (hlen : (lg_sl As).length ≤ maxL) {lv : List (Nat × Value)} (hlv : lv_args 0 As = lv)
    (body : ∀ (p : Program) (e : Env) (s : State) (m : MethodId) (args : Array Value) (below : List Frame) (meth : Method) (c : Code) (ls : Array Slot) (Q : State → Prop), vd_Cx p s m c bytes maxL args y.cls D → lv_has ls maxL lv → ∀ (H : Heap) (locs : List Loc), vd_WS D ad s K H locs →
      (∀ (b : Bool) (K' : KT) (H : Heap) (locs : List Loc) (pc : Nat) (ls : Array Slot), decode bytes pc = .ok (.ireturn, 1) → post (vd_b b) K' → vd_WS D ad s K' H locs → W p l e (vd_R d lo) s m args below meth c H locs 0 0 Q (F0 m pc ls [.int (vd_b b)])) →
      W p l e (vd_R d lo) s m args below meth c H locs 0 0 Q (F0 m 0 ls [])) : vd_MI l y bytes maxL (some .boolean) d lo D ad As K post := by
  refine Met.ofW (cc := bytes) (maxL := maxL) (ret := some .boolean) hyn rfl ?_
  intro p e s m args below meth c s₁ B hml hv
  obtain ⟨rfl, hP, hK, hD, hB⟩ := hv
  have hts := atoms_spec (ws := Cond.code y bytes maxL (some .boolean) :: vd_tbl) B.pre
  have CX : vd_Cx p s m c bytes maxL As.toArray y.cls D := ⟨B.exec, B.bytes, hml, findClass_of_methodNamed B.named, fun w hw => hts w (List.mem_cons_of_mem _ hw), hK⟩
  have hl := lv_entry As (n := maxL) hlen
  rw [lg_entry_eq]
  rw [hlv] at hl
  refine body p e s m As.toArray below meth c _ _ CX hl _ _ ⟨hP, hD, va_S.rf, hB⟩ (fun r K' H locs pc ls hdg hp HW => ?_)
  exact W.zret (v := vd_b r) (ty := .boolean) CX.1 CX.2.1 B.returns (by cases r <;> decide) (fun t ht hW => ⟨⟨vd_b r, K', rfl, hp, by rw [ht]; exact HW.1, va_K.moved hW.alike hK, HW.2.1, HW.2.2.2⟩, HW.2.2.1.F ht⟩) HW.2.2.1.2.2 hdg B.notSynchronized
theorem vd_entV {l : Launch} {y : MethodName} {bytes : ByteArray} {maxL d lo : Nat} {D : va_G} {ad : Nat → Nat} {As : List Value} {K : KT} {post : KT → Prop} (hyn : plainName y.cls = true) (hlen : (lg_sl As).length ≤ maxL) {lv : List (Nat × Value)} (hlv : lv_args 0 As = lv)
    (body : ∀ (p : Program) (e : Env) (s : State) (m : MethodId) (args : Array Value) (below : List Frame) (meth : Method) (c : Code) (ls : Array Slot) (Q : State → Prop), vd_Cx p s m c bytes maxL args y.cls D → lv_has ls maxL lv → ∀ (H : Heap) (locs : List Loc), vd_WS D ad s K H locs →
      (∀ (K' : KT) (H : Heap) (locs : List Loc) (pc : Nat) (ls : Array Slot), decode bytes pc = .ok (.return_, 1) → post K' → vd_WS D ad s K' H locs → W p l e (vd_R d lo) s m args below meth c H locs 0 0 Q (F0 m pc ls [])) →
      W p l e (vd_R d lo) s m args below meth c H locs 0 0 Q (F0 m 0 ls [])) : vd_MV l y bytes maxL d lo D ad As K post := by
  refine Met.ofW (cc := bytes) (maxL := maxL) (ret := none) hyn rfl ?_
  intro p e s m args below meth c s₁ B hml hv
  obtain ⟨rfl, hP, hK, hD, hB⟩ := hv
  have hts := atoms_spec (ws := Cond.code y bytes maxL none :: vd_tbl) B.pre
  have CX : vd_Cx p s m c bytes maxL As.toArray y.cls D := ⟨B.exec, B.bytes, hml, findClass_of_methodNamed B.named, fun w hw => hts w (List.mem_cons_of_mem _ hw), hK⟩
  have hl := lv_entry As (n := maxL) hlen
  rw [lg_entry_eq]
  rw [hlv] at hl
  refine body p e s m As.toArray below meth c _ _ CX hl _ _ ⟨hP, hD, va_S.rf, hB⟩ (fun K' H locs pc ls hdg hp HW => ?_)
  exact W.vret CX.1 CX.2.1 B.returns (fun t ht hW => ⟨⟨K', rfl, hp, by rw [ht]; exact HW.1, va_K.moved hW.alike hK, HW.2.1, HW.2.2.2⟩, HW.2.2.1.F ht⟩) HW.2.2.1.2.2 hdg B.notSynchronized
section VDF
variable {p : Program} {l : Launch} {e : Env} {R : Room} {s : State} {m : MethodId} {args : Array Value} {below : List Frame} {meth : Method} {c : Code} {H : Heap} {locs : List Loc} {Q : State → Prop}
variable {cells slots : Nat} {cc : ByteArray} {pc nL idx : Nat} {ls : Array Slot} {rest : List Value} {own : String} {D : va_G} {ad : Nat → Nat} {K : KT}
theorem vr_30 (CX : vd_Cx p s m c cc nL args own D) (HW : vd_WS D ad s K H locs) : ∃ cell : Cell, H[ad 30]? = some cell ∧ cell.vm.isStatics = false ∧ s.vm.findClass R_D = some cell.cls := va_recv CX.2.2.2.2.2 HW.1 (ci := 3) (q0 := 0) rfl rfl
theorem vg_30_store (CX : vd_Cx p s m c cc nL args own D) (HW : vd_WS D ad s K H locs) (hlk : Cond.fieldLink own idx "VersionDepot" "store" "LVersionDepot$Store;" ∈ vd_tbl) (hdg : decode cc pc = .ok (.getfield idx, 3)) (kk : W p l e R s m args below meth c H locs cells slots Q (F0 m (pc + 3) ls (.ref (ad 31) :: rest))) : W p l e R s m args below meth c H locs cells slots Q (F0 m pc ls (.ref (ad 30) :: rest)) :=
  va_get (D := D) (ci := 3) (v := .ref (ad 31)) (C := R_D) (T := T_D) (N := 8) CX.1 CX.2.1 CX.2.2.2.2.1 in_D CX.2.2.2.1 CX.2.2.2.2.2 HW.1 0 rfl rfl 0 (by decide) (CX.2.2.2.2.1 _ hlk) (fun _ h9 => h9) rfl hdg kk
theorem vg_30_work (CX : vd_Cx p s m c cc nL args own D) (HW : vd_WS D ad s K H locs) (hlk : Cond.fieldLink own idx "VersionDepot" "work" "[I" ∈ vd_tbl) (hdg : decode cc pc = .ok (.getfield idx, 3)) (kk : W p l e R s m args below meth c H locs cells slots Q (F0 m (pc + 3) ls (.ref (ad 0) :: rest))) : W p l e R s m args below meth c H locs cells slots Q (F0 m pc ls (.ref (ad 30) :: rest)) :=
  va_get (D := D) (ci := 3) (v := .ref (ad 0)) (C := R_D) (T := T_D) (N := 8) CX.1 CX.2.1 CX.2.2.2.2.1 in_D CX.2.2.2.1 CX.2.2.2.2.2 HW.1 0 rfl rfl 1 (by decide) (CX.2.2.2.2.1 _ hlk) (fun _ h9 => h9) rfl hdg kk
theorem vg_30_index (CX : vd_Cx p s m c cc nL args own D) (HW : vd_WS D ad s K H locs) (hlk : Cond.fieldLink own idx "VersionDepot" "index" "[I" ∈ vd_tbl) (hdg : decode cc pc = .ok (.getfield idx, 3)) (kk : W p l e R s m args below meth c H locs cells slots Q (F0 m (pc + 3) ls (.ref (ad 1) :: rest))) : W p l e R s m args below meth c H locs cells slots Q (F0 m pc ls (.ref (ad 30) :: rest)) :=
  va_get (D := D) (ci := 3) (v := .ref (ad 1)) (C := R_D) (T := T_D) (N := 8) CX.1 CX.2.1 CX.2.2.2.2.1 in_D CX.2.2.2.1 CX.2.2.2.2.2 HW.1 0 rfl rfl 2 (by decide) (CX.2.2.2.2.1 _ hlk) (fun _ h9 => h9) rfl hdg kk
theorem vg_30_mixture (CX : vd_Cx p s m c cc nL args own D) (HW : vd_WS D ad s K H locs) (hlk : Cond.fieldLink own idx "VersionDepot" "mixture" "[I" ∈ vd_tbl) (hdg : decode cc pc = .ok (.getfield idx, 3)) (kk : W p l e R s m args below meth c H locs cells slots Q (F0 m (pc + 3) ls (.ref (ad 2) :: rest))) : W p l e R s m args below meth c H locs cells slots Q (F0 m pc ls (.ref (ad 30) :: rest)) :=
  va_get (D := D) (ci := 3) (v := .ref (ad 2)) (C := R_D) (T := T_D) (N := 8) CX.1 CX.2.1 CX.2.2.2.2.1 in_D CX.2.2.2.1 CX.2.2.2.2.2 HW.1 0 rfl rfl 3 (by decide) (CX.2.2.2.2.1 _ hlk) (fun _ h9 => h9) rfl hdg kk
theorem vg_30_tips (CX : vd_Cx p s m c cc nL args own D) (HW : vd_WS D ad s K H locs) (hlk : Cond.fieldLink own idx "VersionDepot" "tips" "[I" ∈ vd_tbl) (hdg : decode cc pc = .ok (.getfield idx, 3)) (kk : W p l e R s m args below meth c H locs cells slots Q (F0 m (pc + 3) ls (.ref (ad 3) :: rest))) : W p l e R s m args below meth c H locs cells slots Q (F0 m pc ls (.ref (ad 30) :: rest)) :=
  va_get (D := D) (ci := 3) (v := .ref (ad 3)) (C := R_D) (T := T_D) (N := 8) CX.1 CX.2.1 CX.2.2.2.2.1 in_D CX.2.2.2.1 CX.2.2.2.2.2 HW.1 0 rfl rfl 4 (by decide) (CX.2.2.2.2.1 _ hlk) (fun _ h9 => h9) rfl hdg kk
theorem vg_30_head (CX : vd_Cx p s m c cc nL args own D) (HW : vd_WS D ad s K H locs) (hlk : Cond.fieldLink own idx "VersionDepot" "head" "I" ∈ vd_tbl) (hdg : decode cc pc = .ok (.getfield idx, 3)) (kk : K 40 0 ≤ vd_ub 40 → W p l e R s m args below meth c H locs cells slots Q (F0 m (pc + 3) ls (.int (nI (K 40 0)) :: rest))) : W p l e R s m args below meth c H locs cells slots Q (F0 m pc ls (.ref (ad 30) :: rest)) :=
  va_get (D := D) (ci := 3) (v := .int (nI (K 40 0))) (C := R_D) (T := T_D) (N := 8) CX.1 CX.2.1 CX.2.2.2.2.1 in_D CX.2.2.2.1 CX.2.2.2.2.2 HW.1 0 rfl rfl 5 (by decide) (CX.2.2.2.2.1 _ hlk) (fun _ h9 => h9) rfl hdg (kk (HW.2.2.2 40 0 (by decide)))
theorem vt_30_head (CX : vd_Cx p s m c cc nL args own D) (HW : vd_WS D ad s K H locs) {x : Nat} (hu : x ≤ vd_ub 40) (hlk : Cond.fieldLink own idx "VersionDepot" "head" "I" ∈ vd_tbl) (hdg : decode cc pc = .ok (.putfield idx, 3)) (kk : ∀ (K' : KT) (H' : Heap) (locs' : List Loc), K' = vd_st K 40 0 x → vd_WS D ad s K' H' locs' → W p l e R s m args below meth c H' locs' cells slots Q (F0 m (pc + 3) ls rest)) : W p l e R s m args below meth c H locs cells slots Q (F0 m pc ls (.int (nI x) :: .ref (ad 30) :: rest)) :=
  va_put (D := D) (ci := 3) (v := .int (nI x)) (ty := .int) (C := R_D) (T := T_D) (N := 8) CX.1 CX.2.1 CX.2.2.2.2.1 in_D ty_D tyok_D nm_D CX.2.2.2.1 CX.2.2.2.2.2 HW.1 HW.2.1 HW.2.2.1 0 rfl rfl 5 (by decide) (CX.2.2.2.2.1 _ hlk) (fun _ h9 => h9) rfl (by decide +kernel) rfl rfl (Nat.le_of_ble_eq_true rfl) hdg (fun H1 locs1 h1 h2 h3 => kk _ H1 locs1 rfl ⟨h1, h2, h3, HW.2.2.2.st hu⟩)
theorem vg_30_merging (CX : vd_Cx p s m c cc nL args own D) (HW : vd_WS D ad s K H locs) (hlk : Cond.fieldLink own idx "VersionDepot" "merging" "I" ∈ vd_tbl) (hdg : decode cc pc = .ok (.getfield idx, 3)) (kk : K 41 0 ≤ vd_ub 41 → W p l e R s m args below meth c H locs cells slots Q (F0 m (pc + 3) ls (.int (nI (K 41 0)) :: rest))) : W p l e R s m args below meth c H locs cells slots Q (F0 m pc ls (.ref (ad 30) :: rest)) :=
  va_get (D := D) (ci := 3) (v := .int (nI (K 41 0))) (C := R_D) (T := T_D) (N := 8) CX.1 CX.2.1 CX.2.2.2.2.1 in_D CX.2.2.2.1 CX.2.2.2.2.2 HW.1 0 rfl rfl 6 (by decide) (CX.2.2.2.2.1 _ hlk) (fun _ h9 => h9) rfl hdg (kk (HW.2.2.2 41 0 (by decide)))
theorem vt_30_merging (CX : vd_Cx p s m c cc nL args own D) (HW : vd_WS D ad s K H locs) {x : Nat} (hu : x ≤ vd_ub 41) (hlk : Cond.fieldLink own idx "VersionDepot" "merging" "I" ∈ vd_tbl) (hdg : decode cc pc = .ok (.putfield idx, 3)) (kk : ∀ (K' : KT) (H' : Heap) (locs' : List Loc), K' = vd_st K 41 0 x → vd_WS D ad s K' H' locs' → W p l e R s m args below meth c H' locs' cells slots Q (F0 m (pc + 3) ls rest)) : W p l e R s m args below meth c H locs cells slots Q (F0 m pc ls (.int (nI x) :: .ref (ad 30) :: rest)) :=
  va_put (D := D) (ci := 3) (v := .int (nI x)) (ty := .int) (C := R_D) (T := T_D) (N := 8) CX.1 CX.2.1 CX.2.2.2.2.1 in_D ty_D tyok_D nm_D CX.2.2.2.1 CX.2.2.2.2.2 HW.1 HW.2.1 HW.2.2.1 0 rfl rfl 6 (by decide) (CX.2.2.2.2.1 _ hlk) (fun _ h9 => h9) rfl (by decide +kernel) rfl rfl (Nat.le_of_ble_eq_true rfl) hdg (fun H1 locs1 h1 h2 h3 => kk _ H1 locs1 rfl ⟨h1, h2, h3, HW.2.2.2.st hu⟩)
theorem vg_30_clashes (CX : vd_Cx p s m c cc nL args own D) (HW : vd_WS D ad s K H locs) (hlk : Cond.fieldLink own idx "VersionDepot" "clashes" "I" ∈ vd_tbl) (hdg : decode cc pc = .ok (.getfield idx, 3)) (kk : K 42 0 ≤ vd_ub 42 → W p l e R s m args below meth c H locs cells slots Q (F0 m (pc + 3) ls (.int (nI (K 42 0)) :: rest))) : W p l e R s m args below meth c H locs cells slots Q (F0 m pc ls (.ref (ad 30) :: rest)) :=
  va_get (D := D) (ci := 3) (v := .int (nI (K 42 0))) (C := R_D) (T := T_D) (N := 8) CX.1 CX.2.1 CX.2.2.2.2.1 in_D CX.2.2.2.1 CX.2.2.2.2.2 HW.1 0 rfl rfl 7 (by decide) (CX.2.2.2.2.1 _ hlk) (fun _ h9 => h9) rfl hdg (kk (HW.2.2.2 42 0 (by decide)))
theorem vt_30_clashes (CX : vd_Cx p s m c cc nL args own D) (HW : vd_WS D ad s K H locs) {x : Nat} (hu : x ≤ vd_ub 42) (hlk : Cond.fieldLink own idx "VersionDepot" "clashes" "I" ∈ vd_tbl) (hdg : decode cc pc = .ok (.putfield idx, 3)) (kk : ∀ (K' : KT) (H' : Heap) (locs' : List Loc), K' = vd_st K 42 0 x → vd_WS D ad s K' H' locs' → W p l e R s m args below meth c H' locs' cells slots Q (F0 m (pc + 3) ls rest)) : W p l e R s m args below meth c H locs cells slots Q (F0 m pc ls (.int (nI x) :: .ref (ad 30) :: rest)) :=
  va_put (D := D) (ci := 3) (v := .int (nI x)) (ty := .int) (C := R_D) (T := T_D) (N := 8) CX.1 CX.2.1 CX.2.2.2.2.1 in_D ty_D tyok_D nm_D CX.2.2.2.1 CX.2.2.2.2.2 HW.1 HW.2.1 HW.2.2.1 0 rfl rfl 7 (by decide) (CX.2.2.2.2.1 _ hlk) (fun _ h9 => h9) rfl (by decide +kernel) rfl rfl (Nat.le_of_ble_eq_true rfl) hdg (fun H1 locs1 h1 h2 h3 => kk _ H1 locs1 rfl ⟨h1, h2, h3, HW.2.2.2.st hu⟩)
theorem vr_31 (CX : vd_Cx p s m c cc nL args own D) (HW : vd_WS D ad s K H locs) : ∃ cell : Cell, H[ad 31]? = some cell ∧ cell.vm.isStatics = false ∧ s.vm.findClass R_S = some cell.cls := va_recv CX.2.2.2.2.2 HW.1 (ci := 2) (q0 := 1) rfl rfl
theorem vg_31_blobs (CX : vd_Cx p s m c cc nL args own D) (HW : vd_WS D ad s K H locs) (hlk : Cond.fieldLink own idx "VersionDepot$Store" "blobs" "LVersionDepot$Blobs;" ∈ vd_tbl) (hdg : decode cc pc = .ok (.getfield idx, 3)) (kk : W p l e R s m args below meth c H locs cells slots Q (F0 m (pc + 3) ls (.ref (ad 32) :: rest))) : W p l e R s m args below meth c H locs cells slots Q (F0 m pc ls (.ref (ad 31) :: rest)) :=
  va_get (D := D) (ci := 2) (v := .ref (ad 32)) (C := R_S) (T := T_S) (N := 10) CX.1 CX.2.1 CX.2.2.2.2.1 in_S CX.2.2.2.1 CX.2.2.2.2.2 HW.1 1 rfl rfl 0 (by decide) (CX.2.2.2.2.1 _ hlk) (fun _ h9 => h9) rfl hdg kk
theorem vg_31_folders (CX : vd_Cx p s m c cc nL args own D) (HW : vd_WS D ad s K H locs) (hlk : Cond.fieldLink own idx "VersionDepot$Store" "folders" "LVersionDepot$Rows;" ∈ vd_tbl) (hdg : decode cc pc = .ok (.getfield idx, 3)) (kk : W p l e R s m args below meth c H locs cells slots Q (F0 m (pc + 3) ls (.ref (ad 33) :: rest))) : W p l e R s m args below meth c H locs cells slots Q (F0 m pc ls (.ref (ad 31) :: rest)) :=
  va_get (D := D) (ci := 2) (v := .ref (ad 33)) (C := R_S) (T := T_S) (N := 10) CX.1 CX.2.1 CX.2.2.2.2.1 in_S CX.2.2.2.1 CX.2.2.2.2.2 HW.1 1 rfl rfl 1 (by decide) (CX.2.2.2.2.1 _ hlk) (fun _ h9 => h9) rfl hdg kk
theorem vg_31_roots (CX : vd_Cx p s m c cc nL args own D) (HW : vd_WS D ad s K H locs) (hlk : Cond.fieldLink own idx "VersionDepot$Store" "roots" "LVersionDepot$Rows;" ∈ vd_tbl) (hdg : decode cc pc = .ok (.getfield idx, 3)) (kk : W p l e R s m args below meth c H locs cells slots Q (F0 m (pc + 3) ls (.ref (ad 34) :: rest))) : W p l e R s m args below meth c H locs cells slots Q (F0 m pc ls (.ref (ad 31) :: rest)) :=
  va_get (D := D) (ci := 2) (v := .ref (ad 34)) (C := R_S) (T := T_S) (N := 10) CX.1 CX.2.1 CX.2.2.2.2.1 in_S CX.2.2.2.1 CX.2.2.2.2.2 HW.1 1 rfl rfl 2 (by decide) (CX.2.2.2.2.1 _ hlk) (fun _ h9 => h9) rfl hdg kk
theorem vg_31_rootOf (CX : vd_Cx p s m c cc nL args own D) (HW : vd_WS D ad s K H locs) (hlk : Cond.fieldLink own idx "VersionDepot$Store" "rootOf" "[I" ∈ vd_tbl) (hdg : decode cc pc = .ok (.getfield idx, 3)) (kk : W p l e R s m args below meth c H locs cells slots Q (F0 m (pc + 3) ls (.ref (ad 4) :: rest))) : W p l e R s m args below meth c H locs cells slots Q (F0 m pc ls (.ref (ad 31) :: rest)) :=
  va_get (D := D) (ci := 2) (v := .ref (ad 4)) (C := R_S) (T := T_S) (N := 10) CX.1 CX.2.1 CX.2.2.2.2.1 in_S CX.2.2.2.1 CX.2.2.2.2.2 HW.1 1 rfl rfl 3 (by decide) (CX.2.2.2.2.1 _ hlk) (fun _ h9 => h9) rfl hdg kk
theorem vg_31_firstParents (CX : vd_Cx p s m c cc nL args own D) (HW : vd_WS D ad s K H locs) (hlk : Cond.fieldLink own idx "VersionDepot$Store" "firstParents" "[I" ∈ vd_tbl) (hdg : decode cc pc = .ok (.getfield idx, 3)) (kk : W p l e R s m args below meth c H locs cells slots Q (F0 m (pc + 3) ls (.ref (ad 5) :: rest))) : W p l e R s m args below meth c H locs cells slots Q (F0 m pc ls (.ref (ad 31) :: rest)) :=
  va_get (D := D) (ci := 2) (v := .ref (ad 5)) (C := R_S) (T := T_S) (N := 10) CX.1 CX.2.1 CX.2.2.2.2.1 in_S CX.2.2.2.1 CX.2.2.2.2.2 HW.1 1 rfl rfl 4 (by decide) (CX.2.2.2.2.1 _ hlk) (fun _ h9 => h9) rfl hdg kk
theorem vg_31_secondParents (CX : vd_Cx p s m c cc nL args own D) (HW : vd_WS D ad s K H locs) (hlk : Cond.fieldLink own idx "VersionDepot$Store" "secondParents" "[I" ∈ vd_tbl) (hdg : decode cc pc = .ok (.getfield idx, 3)) (kk : W p l e R s m args below meth c H locs cells slots Q (F0 m (pc + 3) ls (.ref (ad 6) :: rest))) : W p l e R s m args below meth c H locs cells slots Q (F0 m pc ls (.ref (ad 31) :: rest)) :=
  va_get (D := D) (ci := 2) (v := .ref (ad 6)) (C := R_S) (T := T_S) (N := 10) CX.1 CX.2.1 CX.2.2.2.2.1 in_S CX.2.2.2.1 CX.2.2.2.2.2 HW.1 1 rfl rfl 5 (by decide) (CX.2.2.2.2.1 _ hlk) (fun _ h9 => h9) rfl hdg kk
theorem vg_31_ancestors (CX : vd_Cx p s m c cc nL args own D) (HW : vd_WS D ad s K H locs) (hlk : Cond.fieldLink own idx "VersionDepot$Store" "ancestors" "[I" ∈ vd_tbl) (hdg : decode cc pc = .ok (.getfield idx, 3)) (kk : W p l e R s m args below meth c H locs cells slots Q (F0 m (pc + 3) ls (.ref (ad 7) :: rest))) : W p l e R s m args below meth c H locs cells slots Q (F0 m pc ls (.ref (ad 31) :: rest)) :=
  va_get (D := D) (ci := 2) (v := .ref (ad 7)) (C := R_S) (T := T_S) (N := 10) CX.1 CX.2.1 CX.2.2.2.2.1 in_S CX.2.2.2.1 CX.2.2.2.2.2 HW.1 1 rfl rfl 6 (by decide) (CX.2.2.2.2.1 _ hlk) (fun _ h9 => h9) rfl hdg kk
theorem vg_31_folderRow (CX : vd_Cx p s m c cc nL args own D) (HW : vd_WS D ad s K H locs) (hlk : Cond.fieldLink own idx "VersionDepot$Store" "folderRow" "[I" ∈ vd_tbl) (hdg : decode cc pc = .ok (.getfield idx, 3)) (kk : W p l e R s m args below meth c H locs cells slots Q (F0 m (pc + 3) ls (.ref (ad 8) :: rest))) : W p l e R s m args below meth c H locs cells slots Q (F0 m pc ls (.ref (ad 31) :: rest)) :=
  va_get (D := D) (ci := 2) (v := .ref (ad 8)) (C := R_S) (T := T_S) (N := 10) CX.1 CX.2.1 CX.2.2.2.2.1 in_S CX.2.2.2.1 CX.2.2.2.2.2 HW.1 1 rfl rfl 7 (by decide) (CX.2.2.2.2.1 _ hlk) (fun _ h9 => h9) rfl hdg kk
theorem vg_31_made (CX : vd_Cx p s m c cc nL args own D) (HW : vd_WS D ad s K H locs) (hlk : Cond.fieldLink own idx "VersionDepot$Store" "made" "I" ∈ vd_tbl) (hdg : decode cc pc = .ok (.getfield idx, 3)) (kk : K 43 0 ≤ vd_ub 43 → W p l e R s m args below meth c H locs cells slots Q (F0 m (pc + 3) ls (.int (nI (K 43 0)) :: rest))) : W p l e R s m args below meth c H locs cells slots Q (F0 m pc ls (.ref (ad 31) :: rest)) :=
  va_get (D := D) (ci := 2) (v := .int (nI (K 43 0))) (C := R_S) (T := T_S) (N := 10) CX.1 CX.2.1 CX.2.2.2.2.1 in_S CX.2.2.2.1 CX.2.2.2.2.2 HW.1 1 rfl rfl 8 (by decide) (CX.2.2.2.2.1 _ hlk) (fun _ h9 => h9) rfl hdg (kk (HW.2.2.2 43 0 (by decide)))
theorem vt_31_made (CX : vd_Cx p s m c cc nL args own D) (HW : vd_WS D ad s K H locs) {x : Nat} (hu : x ≤ vd_ub 43) (hlk : Cond.fieldLink own idx "VersionDepot$Store" "made" "I" ∈ vd_tbl) (hdg : decode cc pc = .ok (.putfield idx, 3)) (kk : ∀ (K' : KT) (H' : Heap) (locs' : List Loc), K' = vd_st K 43 0 x → vd_WS D ad s K' H' locs' → W p l e R s m args below meth c H' locs' cells slots Q (F0 m (pc + 3) ls rest)) : W p l e R s m args below meth c H locs cells slots Q (F0 m pc ls (.int (nI x) :: .ref (ad 31) :: rest)) :=
  va_put (D := D) (ci := 2) (v := .int (nI x)) (ty := .int) (C := R_S) (T := T_S) (N := 10) CX.1 CX.2.1 CX.2.2.2.2.1 in_S ty_S tyok_S nm_S CX.2.2.2.1 CX.2.2.2.2.2 HW.1 HW.2.1 HW.2.2.1 1 rfl rfl 8 (by decide) (CX.2.2.2.2.1 _ hlk) (fun _ h9 => h9) rfl (by decide +kernel) rfl rfl (Nat.le_of_ble_eq_true rfl) hdg (fun H1 locs1 h1 h2 h3 => kk _ H1 locs1 rfl ⟨h1, h2, h3, HW.2.2.2.st hu⟩)
theorem vg_31_stored (CX : vd_Cx p s m c cc nL args own D) (HW : vd_WS D ad s K H locs) (hlk : Cond.fieldLink own idx "VersionDepot$Store" "stored" "I" ∈ vd_tbl) (hdg : decode cc pc = .ok (.getfield idx, 3)) (kk : K 44 0 ≤ vd_ub 44 → W p l e R s m args below meth c H locs cells slots Q (F0 m (pc + 3) ls (.int (nI (K 44 0)) :: rest))) : W p l e R s m args below meth c H locs cells slots Q (F0 m pc ls (.ref (ad 31) :: rest)) :=
  va_get (D := D) (ci := 2) (v := .int (nI (K 44 0))) (C := R_S) (T := T_S) (N := 10) CX.1 CX.2.1 CX.2.2.2.2.1 in_S CX.2.2.2.1 CX.2.2.2.2.2 HW.1 1 rfl rfl 9 (by decide) (CX.2.2.2.2.1 _ hlk) (fun _ h9 => h9) rfl hdg (kk (HW.2.2.2 44 0 (by decide)))
theorem vt_31_stored (CX : vd_Cx p s m c cc nL args own D) (HW : vd_WS D ad s K H locs) {x : Nat} (hu : x ≤ vd_ub 44) (hlk : Cond.fieldLink own idx "VersionDepot$Store" "stored" "I" ∈ vd_tbl) (hdg : decode cc pc = .ok (.putfield idx, 3)) (kk : ∀ (K' : KT) (H' : Heap) (locs' : List Loc), K' = vd_st K 44 0 x → vd_WS D ad s K' H' locs' → W p l e R s m args below meth c H' locs' cells slots Q (F0 m (pc + 3) ls rest)) : W p l e R s m args below meth c H locs cells slots Q (F0 m pc ls (.int (nI x) :: .ref (ad 31) :: rest)) :=
  va_put (D := D) (ci := 2) (v := .int (nI x)) (ty := .int) (C := R_S) (T := T_S) (N := 10) CX.1 CX.2.1 CX.2.2.2.2.1 in_S ty_S tyok_S nm_S CX.2.2.2.1 CX.2.2.2.2.2 HW.1 HW.2.1 HW.2.2.1 1 rfl rfl 9 (by decide) (CX.2.2.2.2.1 _ hlk) (fun _ h9 => h9) rfl (by decide +kernel) rfl rfl (Nat.le_of_ble_eq_true rfl) hdg (fun H1 locs1 h1 h2 h3 => kk _ H1 locs1 rfl ⟨h1, h2, h3, HW.2.2.2.st hu⟩)
theorem vr_32 (CX : vd_Cx p s m c cc nL args own D) (HW : vd_WS D ad s K H locs) : ∃ cell : Cell, H[ad 32]? = some cell ∧ cell.vm.isStatics = false ∧ s.vm.findClass R_B = some cell.cls := va_recv CX.2.2.2.2.2 HW.1 (ci := 0) (q0 := 2) rfl rfl
theorem vg_32_bits (CX : vd_Cx p s m c cc nL args own D) (HW : vd_WS D ad s K H locs) (hlk : Cond.fieldLink own idx "VersionDepot$Blobs" "bits" "[J" ∈ vd_tbl) (hdg : decode cc pc = .ok (.getfield idx, 3)) (kk : W p l e R s m args below meth c H locs cells slots Q (F0 m (pc + 3) ls (.ref (ad 9) :: rest))) : W p l e R s m args below meth c H locs cells slots Q (F0 m pc ls (.ref (ad 32) :: rest)) :=
  va_get (D := D) (ci := 0) (v := .ref (ad 9)) (C := R_B) (T := T_B) (N := 1) CX.1 CX.2.1 CX.2.2.2.2.1 in_B CX.2.2.2.1 CX.2.2.2.2.2 HW.1 2 rfl rfl 0 (by decide) (CX.2.2.2.2.1 _ hlk) (fun _ h9 => h9) rfl hdg kk
theorem vr_33 (CX : vd_Cx p s m c cc nL args own D) (HW : vd_WS D ad s K H locs) : ∃ cell : Cell, H[ad 33]? = some cell ∧ cell.vm.isStatics = false ∧ s.vm.findClass R_W = some cell.cls := va_recv CX.2.2.2.2.2 HW.1 (ci := 1) (q0 := 3) rfl rfl
theorem vg_33_numbers (CX : vd_Cx p s m c cc nL args own D) (HW : vd_WS D ad s K H locs) (hlk : Cond.fieldLink own idx "VersionDepot$Rows" "numbers" "[I" ∈ vd_tbl) (hdg : decode cc pc = .ok (.getfield idx, 3)) (kk : W p l e R s m args below meth c H locs cells slots Q (F0 m (pc + 3) ls (.ref (ad 10) :: rest))) : W p l e R s m args below meth c H locs cells slots Q (F0 m pc ls (.ref (ad 33) :: rest)) :=
  va_get (D := D) (ci := 1) (v := .ref (ad 10)) (C := R_W) (T := T_W) (N := 3) CX.1 CX.2.1 CX.2.2.2.2.1 in_W CX.2.2.2.1 CX.2.2.2.2.2 HW.1 3 rfl rfl 0 (by decide) (CX.2.2.2.2.1 _ hlk) (fun _ h9 => h9) rfl hdg kk
theorem vg_33_stored (CX : vd_Cx p s m c cc nL args own D) (HW : vd_WS D ad s K H locs) (hlk : Cond.fieldLink own idx "VersionDepot$Rows" "stored" "[Z" ∈ vd_tbl) (hdg : decode cc pc = .ok (.getfield idx, 3)) (kk : W p l e R s m args below meth c H locs cells slots Q (F0 m (pc + 3) ls (.ref (ad 11) :: rest))) : W p l e R s m args below meth c H locs cells slots Q (F0 m pc ls (.ref (ad 33) :: rest)) :=
  va_get (D := D) (ci := 1) (v := .ref (ad 11)) (C := R_W) (T := T_W) (N := 3) CX.1 CX.2.1 CX.2.2.2.2.1 in_W CX.2.2.2.1 CX.2.2.2.2.2 HW.1 3 rfl rfl 1 (by decide) (CX.2.2.2.2.1 _ hlk) (fun _ h9 => h9) rfl hdg kk
theorem vg_33_last (CX : vd_Cx p s m c cc nL args own D) (HW : vd_WS D ad s K H locs) (hlk : Cond.fieldLink own idx "VersionDepot$Rows" "last" "I" ∈ vd_tbl) (hdg : decode cc pc = .ok (.getfield idx, 3)) (kk : K 45 0 ≤ vd_ub 45 → W p l e R s m args below meth c H locs cells slots Q (F0 m (pc + 3) ls (.int (nI (K 45 0)) :: rest))) : W p l e R s m args below meth c H locs cells slots Q (F0 m pc ls (.ref (ad 33) :: rest)) :=
  va_get (D := D) (ci := 1) (v := .int (nI (K 45 0))) (C := R_W) (T := T_W) (N := 3) CX.1 CX.2.1 CX.2.2.2.2.1 in_W CX.2.2.2.1 CX.2.2.2.2.2 HW.1 3 rfl rfl 2 (by decide) (CX.2.2.2.2.1 _ hlk) (fun _ h9 => h9) rfl hdg (kk (HW.2.2.2 45 0 (by decide)))
theorem vt_33_last (CX : vd_Cx p s m c cc nL args own D) (HW : vd_WS D ad s K H locs) {x : Nat} (hu : x ≤ vd_ub 45) (hlk : Cond.fieldLink own idx "VersionDepot$Rows" "last" "I" ∈ vd_tbl) (hdg : decode cc pc = .ok (.putfield idx, 3)) (kk : ∀ (K' : KT) (H' : Heap) (locs' : List Loc), K' = vd_st K 45 0 x → vd_WS D ad s K' H' locs' → W p l e R s m args below meth c H' locs' cells slots Q (F0 m (pc + 3) ls rest)) : W p l e R s m args below meth c H locs cells slots Q (F0 m pc ls (.int (nI x) :: .ref (ad 33) :: rest)) :=
  va_put (D := D) (ci := 1) (v := .int (nI x)) (ty := .int) (C := R_W) (T := T_W) (N := 3) CX.1 CX.2.1 CX.2.2.2.2.1 in_W ty_W tyok_W nm_W CX.2.2.2.1 CX.2.2.2.2.2 HW.1 HW.2.1 HW.2.2.1 3 rfl rfl 2 (by decide) (CX.2.2.2.2.1 _ hlk) (fun _ h9 => h9) rfl (by decide +kernel) rfl rfl (Nat.le_of_ble_eq_true rfl) hdg (fun H1 locs1 h1 h2 h3 => kk _ H1 locs1 rfl ⟨h1, h2, h3, HW.2.2.2.st hu⟩)
theorem vr_34 (CX : vd_Cx p s m c cc nL args own D) (HW : vd_WS D ad s K H locs) : ∃ cell : Cell, H[ad 34]? = some cell ∧ cell.vm.isStatics = false ∧ s.vm.findClass R_W = some cell.cls := va_recv CX.2.2.2.2.2 HW.1 (ci := 1) (q0 := 4) rfl rfl
theorem vg_34_numbers (CX : vd_Cx p s m c cc nL args own D) (HW : vd_WS D ad s K H locs) (hlk : Cond.fieldLink own idx "VersionDepot$Rows" "numbers" "[I" ∈ vd_tbl) (hdg : decode cc pc = .ok (.getfield idx, 3)) (kk : W p l e R s m args below meth c H locs cells slots Q (F0 m (pc + 3) ls (.ref (ad 12) :: rest))) : W p l e R s m args below meth c H locs cells slots Q (F0 m pc ls (.ref (ad 34) :: rest)) :=
  va_get (D := D) (ci := 1) (v := .ref (ad 12)) (C := R_W) (T := T_W) (N := 3) CX.1 CX.2.1 CX.2.2.2.2.1 in_W CX.2.2.2.1 CX.2.2.2.2.2 HW.1 4 rfl rfl 0 (by decide) (CX.2.2.2.2.1 _ hlk) (fun _ h9 => h9) rfl hdg kk
theorem vg_34_stored (CX : vd_Cx p s m c cc nL args own D) (HW : vd_WS D ad s K H locs) (hlk : Cond.fieldLink own idx "VersionDepot$Rows" "stored" "[Z" ∈ vd_tbl) (hdg : decode cc pc = .ok (.getfield idx, 3)) (kk : W p l e R s m args below meth c H locs cells slots Q (F0 m (pc + 3) ls (.ref (ad 13) :: rest))) : W p l e R s m args below meth c H locs cells slots Q (F0 m pc ls (.ref (ad 34) :: rest)) :=
  va_get (D := D) (ci := 1) (v := .ref (ad 13)) (C := R_W) (T := T_W) (N := 3) CX.1 CX.2.1 CX.2.2.2.2.1 in_W CX.2.2.2.1 CX.2.2.2.2.2 HW.1 4 rfl rfl 1 (by decide) (CX.2.2.2.2.1 _ hlk) (fun _ h9 => h9) rfl hdg kk
theorem vg_34_last (CX : vd_Cx p s m c cc nL args own D) (HW : vd_WS D ad s K H locs) (hlk : Cond.fieldLink own idx "VersionDepot$Rows" "last" "I" ∈ vd_tbl) (hdg : decode cc pc = .ok (.getfield idx, 3)) (kk : K 46 0 ≤ vd_ub 46 → W p l e R s m args below meth c H locs cells slots Q (F0 m (pc + 3) ls (.int (nI (K 46 0)) :: rest))) : W p l e R s m args below meth c H locs cells slots Q (F0 m pc ls (.ref (ad 34) :: rest)) :=
  va_get (D := D) (ci := 1) (v := .int (nI (K 46 0))) (C := R_W) (T := T_W) (N := 3) CX.1 CX.2.1 CX.2.2.2.2.1 in_W CX.2.2.2.1 CX.2.2.2.2.2 HW.1 4 rfl rfl 2 (by decide) (CX.2.2.2.2.1 _ hlk) (fun _ h9 => h9) rfl hdg (kk (HW.2.2.2 46 0 (by decide)))
theorem vt_34_last (CX : vd_Cx p s m c cc nL args own D) (HW : vd_WS D ad s K H locs) {x : Nat} (hu : x ≤ vd_ub 46) (hlk : Cond.fieldLink own idx "VersionDepot$Rows" "last" "I" ∈ vd_tbl) (hdg : decode cc pc = .ok (.putfield idx, 3)) (kk : ∀ (K' : KT) (H' : Heap) (locs' : List Loc), K' = vd_st K 46 0 x → vd_WS D ad s K' H' locs' → W p l e R s m args below meth c H' locs' cells slots Q (F0 m (pc + 3) ls rest)) : W p l e R s m args below meth c H locs cells slots Q (F0 m pc ls (.int (nI x) :: .ref (ad 34) :: rest)) :=
  va_put (D := D) (ci := 1) (v := .int (nI x)) (ty := .int) (C := R_W) (T := T_W) (N := 3) CX.1 CX.2.1 CX.2.2.2.2.1 in_W ty_W tyok_W nm_W CX.2.2.2.1 CX.2.2.2.2.2 HW.1 HW.2.1 HW.2.2.1 4 rfl rfl 2 (by decide) (CX.2.2.2.2.1 _ hlk) (fun _ h9 => h9) rfl (by decide +kernel) rfl rfl (Nat.le_of_ble_eq_true rfl) hdg (fun H1 locs1 h1 h2 h3 => kk _ H1 locs1 rfl ⟨h1, h2, h3, HW.2.2.2.st hu⟩)
theorem vr_35 (CX : vd_Cx p s m c cc nL args own D) (HW : vd_WS D ad s K H locs) : ∃ cell : Cell, H[ad 35]? = some cell ∧ cell.vm.isStatics = false ∧ s.vm.findClass R_M = some cell.cls := va_recv CX.2.2.2.2.2 HW.1 (ci := 4) (q0 := 5) rfl rfl
theorem vg_35_content (CX : vd_Cx p s m c cc nL args own D) (HW : vd_WS D ad s K H locs) (hlk : Cond.fieldLink own idx "VersionDepotModel" "content" "[I" ∈ vd_tbl) (hdg : decode cc pc = .ok (.getfield idx, 3)) (kk : W p l e R s m args below meth c H locs cells slots Q (F0 m (pc + 3) ls (.ref (ad 14) :: rest))) : W p l e R s m args below meth c H locs cells slots Q (F0 m pc ls (.ref (ad 35) :: rest)) :=
  va_get (D := D) (ci := 4) (v := .ref (ad 14)) (C := R_M) (T := T_M) (N := 12) CX.1 CX.2.1 CX.2.2.2.2.1 in_M CX.2.2.2.1 CX.2.2.2.2.2 HW.1 5 rfl rfl 0 (by decide) (CX.2.2.2.2.1 _ hlk) (fun _ h9 => h9) rfl hdg kk
theorem vg_35_stored (CX : vd_Cx p s m c cc nL args own D) (HW : vd_WS D ad s K H locs) (hlk : Cond.fieldLink own idx "VersionDepotModel" "stored" "[Z" ∈ vd_tbl) (hdg : decode cc pc = .ok (.getfield idx, 3)) (kk : W p l e R s m args below meth c H locs cells slots Q (F0 m (pc + 3) ls (.ref (ad 15) :: rest))) : W p l e R s m args below meth c H locs cells slots Q (F0 m pc ls (.ref (ad 35) :: rest)) :=
  va_get (D := D) (ci := 4) (v := .ref (ad 15)) (C := R_M) (T := T_M) (N := 12) CX.1 CX.2.1 CX.2.2.2.2.1 in_M CX.2.2.2.1 CX.2.2.2.2.2 HW.1 5 rfl rfl 1 (by decide) (CX.2.2.2.2.1 _ hlk) (fun _ h9 => h9) rfl hdg kk
theorem vg_35_first (CX : vd_Cx p s m c cc nL args own D) (HW : vd_WS D ad s K H locs) (hlk : Cond.fieldLink own idx "VersionDepotModel" "first" "[I" ∈ vd_tbl) (hdg : decode cc pc = .ok (.getfield idx, 3)) (kk : W p l e R s m args below meth c H locs cells slots Q (F0 m (pc + 3) ls (.ref (ad 16) :: rest))) : W p l e R s m args below meth c H locs cells slots Q (F0 m pc ls (.ref (ad 35) :: rest)) :=
  va_get (D := D) (ci := 4) (v := .ref (ad 16)) (C := R_M) (T := T_M) (N := 12) CX.1 CX.2.1 CX.2.2.2.2.1 in_M CX.2.2.2.1 CX.2.2.2.2.2 HW.1 5 rfl rfl 2 (by decide) (CX.2.2.2.2.1 _ hlk) (fun _ h9 => h9) rfl hdg kk
theorem vg_35_second (CX : vd_Cx p s m c cc nL args own D) (HW : vd_WS D ad s K H locs) (hlk : Cond.fieldLink own idx "VersionDepotModel" "second" "[I" ∈ vd_tbl) (hdg : decode cc pc = .ok (.getfield idx, 3)) (kk : W p l e R s m args below meth c H locs cells slots Q (F0 m (pc + 3) ls (.ref (ad 17) :: rest))) : W p l e R s m args below meth c H locs cells slots Q (F0 m pc ls (.ref (ad 35) :: rest)) :=
  va_get (D := D) (ci := 4) (v := .ref (ad 17)) (C := R_M) (T := T_M) (N := 12) CX.1 CX.2.1 CX.2.2.2.2.1 in_M CX.2.2.2.1 CX.2.2.2.2.2 HW.1 5 rfl rfl 3 (by decide) (CX.2.2.2.2.1 _ hlk) (fun _ h9 => h9) rfl hdg kk
theorem vg_35_made (CX : vd_Cx p s m c cc nL args own D) (HW : vd_WS D ad s K H locs) (hlk : Cond.fieldLink own idx "VersionDepotModel" "made" "I" ∈ vd_tbl) (hdg : decode cc pc = .ok (.getfield idx, 3)) (kk : K 47 0 ≤ vd_ub 47 → W p l e R s m args below meth c H locs cells slots Q (F0 m (pc + 3) ls (.int (nI (K 47 0)) :: rest))) : W p l e R s m args below meth c H locs cells slots Q (F0 m pc ls (.ref (ad 35) :: rest)) :=
  va_get (D := D) (ci := 4) (v := .int (nI (K 47 0))) (C := R_M) (T := T_M) (N := 12) CX.1 CX.2.1 CX.2.2.2.2.1 in_M CX.2.2.2.1 CX.2.2.2.2.2 HW.1 5 rfl rfl 4 (by decide) (CX.2.2.2.2.1 _ hlk) (fun _ h9 => h9) rfl hdg (kk (HW.2.2.2 47 0 (by decide)))
theorem vt_35_made (CX : vd_Cx p s m c cc nL args own D) (HW : vd_WS D ad s K H locs) {x : Nat} (hu : x ≤ vd_ub 47) (hlk : Cond.fieldLink own idx "VersionDepotModel" "made" "I" ∈ vd_tbl) (hdg : decode cc pc = .ok (.putfield idx, 3)) (kk : ∀ (K' : KT) (H' : Heap) (locs' : List Loc), K' = vd_st K 47 0 x → vd_WS D ad s K' H' locs' → W p l e R s m args below meth c H' locs' cells slots Q (F0 m (pc + 3) ls rest)) : W p l e R s m args below meth c H locs cells slots Q (F0 m pc ls (.int (nI x) :: .ref (ad 35) :: rest)) :=
  va_put (D := D) (ci := 4) (v := .int (nI x)) (ty := .int) (C := R_M) (T := T_M) (N := 12) CX.1 CX.2.1 CX.2.2.2.2.1 in_M ty_M tyok_M nm_M CX.2.2.2.1 CX.2.2.2.2.2 HW.1 HW.2.1 HW.2.2.1 5 rfl rfl 4 (by decide) (CX.2.2.2.2.1 _ hlk) (fun _ h9 => h9) rfl (by decide +kernel) rfl rfl (Nat.le_of_ble_eq_true rfl) hdg (fun H1 locs1 h1 h2 h3 => kk _ H1 locs1 rfl ⟨h1, h2, h3, HW.2.2.2.st hu⟩)
theorem vg_35_branch (CX : vd_Cx p s m c cc nL args own D) (HW : vd_WS D ad s K H locs) (hlk : Cond.fieldLink own idx "VersionDepotModel" "branch" "[I" ∈ vd_tbl) (hdg : decode cc pc = .ok (.getfield idx, 3)) (kk : W p l e R s m args below meth c H locs cells slots Q (F0 m (pc + 3) ls (.ref (ad 18) :: rest))) : W p l e R s m args below meth c H locs cells slots Q (F0 m pc ls (.ref (ad 35) :: rest)) :=
  va_get (D := D) (ci := 4) (v := .ref (ad 18)) (C := R_M) (T := T_M) (N := 12) CX.1 CX.2.1 CX.2.2.2.2.1 in_M CX.2.2.2.1 CX.2.2.2.2.2 HW.1 5 rfl rfl 5 (by decide) (CX.2.2.2.2.1 _ hlk) (fun _ h9 => h9) rfl hdg kk
theorem vg_35_head (CX : vd_Cx p s m c cc nL args own D) (HW : vd_WS D ad s K H locs) (hlk : Cond.fieldLink own idx "VersionDepotModel" "head" "I" ∈ vd_tbl) (hdg : decode cc pc = .ok (.getfield idx, 3)) (kk : K 48 0 ≤ vd_ub 48 → W p l e R s m args below meth c H locs cells slots Q (F0 m (pc + 3) ls (.int (nI (K 48 0)) :: rest))) : W p l e R s m args below meth c H locs cells slots Q (F0 m pc ls (.ref (ad 35) :: rest)) :=
  va_get (D := D) (ci := 4) (v := .int (nI (K 48 0))) (C := R_M) (T := T_M) (N := 12) CX.1 CX.2.1 CX.2.2.2.2.1 in_M CX.2.2.2.1 CX.2.2.2.2.2 HW.1 5 rfl rfl 6 (by decide) (CX.2.2.2.2.1 _ hlk) (fun _ h9 => h9) rfl hdg (kk (HW.2.2.2 48 0 (by decide)))
theorem vt_35_head (CX : vd_Cx p s m c cc nL args own D) (HW : vd_WS D ad s K H locs) {x : Nat} (hu : x ≤ vd_ub 48) (hlk : Cond.fieldLink own idx "VersionDepotModel" "head" "I" ∈ vd_tbl) (hdg : decode cc pc = .ok (.putfield idx, 3)) (kk : ∀ (K' : KT) (H' : Heap) (locs' : List Loc), K' = vd_st K 48 0 x → vd_WS D ad s K' H' locs' → W p l e R s m args below meth c H' locs' cells slots Q (F0 m (pc + 3) ls rest)) : W p l e R s m args below meth c H locs cells slots Q (F0 m pc ls (.int (nI x) :: .ref (ad 35) :: rest)) :=
  va_put (D := D) (ci := 4) (v := .int (nI x)) (ty := .int) (C := R_M) (T := T_M) (N := 12) CX.1 CX.2.1 CX.2.2.2.2.1 in_M ty_M tyok_M nm_M CX.2.2.2.1 CX.2.2.2.2.2 HW.1 HW.2.1 HW.2.2.1 5 rfl rfl 6 (by decide) (CX.2.2.2.2.1 _ hlk) (fun _ h9 => h9) rfl (by decide +kernel) rfl rfl (Nat.le_of_ble_eq_true rfl) hdg (fun H1 locs1 h1 h2 h3 => kk _ H1 locs1 rfl ⟨h1, h2, h3, HW.2.2.2.st hu⟩)
theorem vg_35_merging (CX : vd_Cx p s m c cc nL args own D) (HW : vd_WS D ad s K H locs) (hlk : Cond.fieldLink own idx "VersionDepotModel" "merging" "I" ∈ vd_tbl) (hdg : decode cc pc = .ok (.getfield idx, 3)) (kk : K 49 0 ≤ vd_ub 49 → W p l e R s m args below meth c H locs cells slots Q (F0 m (pc + 3) ls (.int (nI (K 49 0)) :: rest))) : W p l e R s m args below meth c H locs cells slots Q (F0 m pc ls (.ref (ad 35) :: rest)) :=
  va_get (D := D) (ci := 4) (v := .int (nI (K 49 0))) (C := R_M) (T := T_M) (N := 12) CX.1 CX.2.1 CX.2.2.2.2.1 in_M CX.2.2.2.1 CX.2.2.2.2.2 HW.1 5 rfl rfl 7 (by decide) (CX.2.2.2.2.1 _ hlk) (fun _ h9 => h9) rfl hdg (kk (HW.2.2.2 49 0 (by decide)))
theorem vt_35_merging (CX : vd_Cx p s m c cc nL args own D) (HW : vd_WS D ad s K H locs) {x : Nat} (hu : x ≤ vd_ub 49) (hlk : Cond.fieldLink own idx "VersionDepotModel" "merging" "I" ∈ vd_tbl) (hdg : decode cc pc = .ok (.putfield idx, 3)) (kk : ∀ (K' : KT) (H' : Heap) (locs' : List Loc), K' = vd_st K 49 0 x → vd_WS D ad s K' H' locs' → W p l e R s m args below meth c H' locs' cells slots Q (F0 m (pc + 3) ls rest)) : W p l e R s m args below meth c H locs cells slots Q (F0 m pc ls (.int (nI x) :: .ref (ad 35) :: rest)) :=
  va_put (D := D) (ci := 4) (v := .int (nI x)) (ty := .int) (C := R_M) (T := T_M) (N := 12) CX.1 CX.2.1 CX.2.2.2.2.1 in_M ty_M tyok_M nm_M CX.2.2.2.1 CX.2.2.2.2.2 HW.1 HW.2.1 HW.2.2.1 5 rfl rfl 7 (by decide) (CX.2.2.2.2.1 _ hlk) (fun _ h9 => h9) rfl (by decide +kernel) rfl rfl (Nat.le_of_ble_eq_true rfl) hdg (fun H1 locs1 h1 h2 h3 => kk _ H1 locs1 rfl ⟨h1, h2, h3, HW.2.2.2.st hu⟩)
theorem vg_35_clashing (CX : vd_Cx p s m c cc nL args own D) (HW : vd_WS D ad s K H locs) (hlk : Cond.fieldLink own idx "VersionDepotModel" "clashing" "[Z" ∈ vd_tbl) (hdg : decode cc pc = .ok (.getfield idx, 3)) (kk : W p l e R s m args below meth c H locs cells slots Q (F0 m (pc + 3) ls (.ref (ad 19) :: rest))) : W p l e R s m args below meth c H locs cells slots Q (F0 m pc ls (.ref (ad 35) :: rest)) :=
  va_get (D := D) (ci := 4) (v := .ref (ad 19)) (C := R_M) (T := T_M) (N := 12) CX.1 CX.2.1 CX.2.2.2.2.1 in_M CX.2.2.2.1 CX.2.2.2.2.2 HW.1 5 rfl rfl 8 (by decide) (CX.2.2.2.2.1 _ hlk) (fun _ h9 => h9) rfl hdg kk
theorem vg_35_blob (CX : vd_Cx p s m c cc nL args own D) (HW : vd_WS D ad s K H locs) (hlk : Cond.fieldLink own idx "VersionDepotModel" "blob" "[Z" ∈ vd_tbl) (hdg : decode cc pc = .ok (.getfield idx, 3)) (kk : W p l e R s m args below meth c H locs cells slots Q (F0 m (pc + 3) ls (.ref (ad 20) :: rest))) : W p l e R s m args below meth c H locs cells slots Q (F0 m pc ls (.ref (ad 35) :: rest)) :=
  va_get (D := D) (ci := 4) (v := .ref (ad 20)) (C := R_M) (T := T_M) (N := 12) CX.1 CX.2.1 CX.2.2.2.2.1 in_M CX.2.2.2.1 CX.2.2.2.2.2 HW.1 5 rfl rfl 9 (by decide) (CX.2.2.2.2.1 _ hlk) (fun _ h9 => h9) rfl hdg kk
theorem vg_35_marked (CX : vd_Cx p s m c cc nL args own D) (HW : vd_WS D ad s K H locs) (hlk : Cond.fieldLink own idx "VersionDepotModel" "marked" "[Z" ∈ vd_tbl) (hdg : decode cc pc = .ok (.getfield idx, 3)) (kk : W p l e R s m args below meth c H locs cells slots Q (F0 m (pc + 3) ls (.ref (ad 21) :: rest))) : W p l e R s m args below meth c H locs cells slots Q (F0 m pc ls (.ref (ad 35) :: rest)) :=
  va_get (D := D) (ci := 4) (v := .ref (ad 21)) (C := R_M) (T := T_M) (N := 12) CX.1 CX.2.1 CX.2.2.2.2.1 in_M CX.2.2.2.1 CX.2.2.2.2.2 HW.1 5 rfl rfl 10 (by decide) (CX.2.2.2.2.1 _ hlk) (fun _ h9 => h9) rfl hdg kk
theorem vg_35_other (CX : vd_Cx p s m c cc nL args own D) (HW : vd_WS D ad s K H locs) (hlk : Cond.fieldLink own idx "VersionDepotModel" "other" "[Z" ∈ vd_tbl) (hdg : decode cc pc = .ok (.getfield idx, 3)) (kk : W p l e R s m args below meth c H locs cells slots Q (F0 m (pc + 3) ls (.ref (ad 22) :: rest))) : W p l e R s m args below meth c H locs cells slots Q (F0 m pc ls (.ref (ad 35) :: rest)) :=
  va_get (D := D) (ci := 4) (v := .ref (ad 22)) (C := R_M) (T := T_M) (N := 12) CX.1 CX.2.1 CX.2.2.2.2.1 in_M CX.2.2.2.1 CX.2.2.2.2.2 HW.1 5 rfl rfl 11 (by decide) (CX.2.2.2.2.1 _ hlk) (fun _ h9 => h9) rfl hdg kk
end VDF
