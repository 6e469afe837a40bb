theorem ls_arr {s : State} {args : Array Value} {ty : FieldType} (h : (Cond.arrayClass ty).before args s = true) (hr : ∀ c, s.vm.findClass ("[" ++ ty.toString) = some c → va_RA s c ty) : ∃ c, ArrOfT s c ty ∧ va_RA s c ty := by
  obtain ⟨c, k, comp, h1, h2, h3⟩ := Cond.arrayClass_spec h
  exact ⟨c, fun n z => ⟨fun k h => (by cases h), k, h2, comp, h3⟩, hr c h1⟩
set_option maxHeartbeats 4000000 in
set_option maxRecDepth 100000 in
theorem ls_K {s : State} {args : Array Value} (hts : ∀ w ∈ vd_tbl, w.before args s = true) : ∃ D : va_G, va_K D vwCl (vd_tys D) s := by
  obtain ⟨c0, i0, h0⟩ := u_known (C := R_B) (T := T_B) (N := 1) (n := 1) hts in_B (hts _ ci_in_B)
  obtain ⟨c1, i1, h1⟩ := u_known (C := R_W) (T := T_W) (N := 3) (n := 3) hts in_W (hts _ ci_in_W)
  obtain ⟨c2, i2, h2⟩ := u_known (C := R_S) (T := T_S) (N := 10) (n := 10) hts in_S (hts _ ci_in_S)
  obtain ⟨c3, i3, h3⟩ := u_known (C := R_D) (T := T_D) (N := 8) (n := 8) hts in_D (hts _ ci_in_D)
  obtain ⟨c4, i4, h4⟩ := u_known (C := R_M) (T := T_M) (N := 12) (n := 12) hts in_M (hts _ ci_in_M)
  obtain ⟨cI, rI, sI⟩ := ls_arr (ty := .int) (hts _ ci_ai) (fun c h => h)
  obtain ⟨cZ, rZ, sZ⟩ := ls_arr (ty := .boolean) (hts _ ci_az) (fun c h => h)
  obtain ⟨cJ, rJ, sJ⟩ := ls_arr (ty := .long) (hts _ ci_al) (fun c h => h)
  refine ⟨(fun k => if k = 0 then c0 else if k = 1 then c1 else if k = 2 then c2 else if k = 3 then c3 else if k = 4 then c4 else if k = 50 then cI else if k = 51 then cZ else cJ, fun k => if k = 0 then i0 else if k = 1 then i1 else if k = 2 then i2 else if k = 3 then i3 else i4), ?_, ?_⟩
  · intro k q hq
    match k, hq with
    | 0, hq => cases hq; exact h0
    | 1, hq => cases hq; exact h1
    | 2, hq => cases hq; exact h2
    | 3, hq => cases hq; exact h3
    | 4, hq => cases hq; exact h4
    | k + 5, hq => simp [vwCl] at hq
  · intro k q hq
    match k, hq with
    | 0, hq => cases hq; exact ⟨rI, sI⟩
    | 1, hq => cases hq; exact ⟨rZ, sZ⟩
    | 2, hq => cases hq; exact ⟨rJ, sJ⟩
    | k + 3, hq => simp [vd_tys] at hq
theorem ls_Ad {D : va_G} {ad : Nat → Nat} {K : KT} {A : Nat → Prop} (hD : va_D A (vd_wd D ad K)) : (∀ q, vd_Ad ad q → A q) ∧ va_D (vd_Ad ad) (vd_wd D ad K) := by
  refine ⟨?_, hD.weaken (fun k q hk _ => ?_)⟩
  · rintro q ⟨j, hj, rfl⟩
    rcases (show j = 30 ∨ j = 31 ∨ j = 32 ∨ j = 33 ∨ j = 34 ∨ j = 35 ∨ j = 0 ∨ j = 1 ∨ j = 2 ∨ j = 3 ∨ j = 4 ∨ j = 5 ∨ j = 6 ∨ j = 7 ∨ j = 8 ∨ j = 9 ∨ j = 10 ∨ j = 11 ∨ j = 12 ∨ j = 13 ∨ j = 14 ∨ j = 15 ∨ j = 16 ∨ j = 17 ∨ j = 18 ∨ j = 19 ∨ j = 20 ∨ j = 21 ∨ j = 22 by omega) with rfl | rfl | rfl | rfl | rfl | rfl | rfl | rfl | rfl | rfl | rfl | rfl | rfl | rfl | rfl | rfl | rfl | rfl | rfl | rfl | rfl | rfl | rfl | rfl | rfl | rfl | rfl | rfl | rfl
    · exact hD.2 0 _ rfl
    · exact hD.2 1 _ rfl
    · exact hD.2 2 _ rfl
    · exact hD.2 3 _ rfl
    · exact hD.2 4 _ rfl
    · exact hD.2 5 _ rfl
    · exact hD.2 6 _ rfl
    · exact hD.2 7 _ rfl
    · exact hD.2 8 _ rfl
    · exact hD.2 9 _ rfl
    · exact hD.2 10 _ rfl
    · exact hD.2 11 _ rfl
    · exact hD.2 12 _ rfl
    · exact hD.2 13 _ rfl
    · exact hD.2 14 _ rfl
    · exact hD.2 15 _ rfl
    · exact hD.2 16 _ rfl
    · exact hD.2 17 _ rfl
    · exact hD.2 18 _ rfl
    · exact hD.2 19 _ rfl
    · exact hD.2 20 _ rfl
    · exact hD.2 21 _ rfl
    · exact hD.2 22 _ rfl
    · exact hD.2 23 _ rfl
    · exact hD.2 24 _ rfl
    · exact hD.2 25 _ rfl
    · exact hD.2 26 _ rfl
    · exact hD.2 27 _ rfl
    · exact hD.2 28 _ rfl
  · match k, hk with
    | 0, hk => cases hk; exact ⟨30, by omega, rfl⟩
    | 1, hk => cases hk; exact ⟨31, by omega, rfl⟩
    | 2, hk => cases hk; exact ⟨32, by omega, rfl⟩
    | 3, hk => cases hk; exact ⟨33, by omega, rfl⟩
    | 4, hk => cases hk; exact ⟨34, by omega, rfl⟩
    | 5, hk => cases hk; exact ⟨35, by omega, rfl⟩
    | 6, hk => cases hk; exact ⟨0, by omega, rfl⟩
    | 7, hk => cases hk; exact ⟨1, by omega, rfl⟩
    | 8, hk => cases hk; exact ⟨2, by omega, rfl⟩
    | 9, hk => cases hk; exact ⟨3, by omega, rfl⟩
    | 10, hk => cases hk; exact ⟨4, by omega, rfl⟩
    | 11, hk => cases hk; exact ⟨5, by omega, rfl⟩
    | 12, hk => cases hk; exact ⟨6, by omega, rfl⟩
    | 13, hk => cases hk; exact ⟨7, by omega, rfl⟩
    | 14, hk => cases hk; exact ⟨8, by omega, rfl⟩
    | 15, hk => cases hk; exact ⟨9, by omega, rfl⟩
    | 16, hk => cases hk; exact ⟨10, by omega, rfl⟩
    | 17, hk => cases hk; exact ⟨11, by omega, rfl⟩
    | 18, hk => cases hk; exact ⟨12, by omega, rfl⟩
    | 19, hk => cases hk; exact ⟨13, by omega, rfl⟩
    | 20, hk => cases hk; exact ⟨14, by omega, rfl⟩
    | 21, hk => cases hk; exact ⟨15, by omega, rfl⟩
    | 22, hk => cases hk; exact ⟨16, by omega, rfl⟩
    | 23, hk => cases hk; exact ⟨17, by omega, rfl⟩
    | 24, hk => cases hk; exact ⟨18, by omega, rfl⟩
    | 25, hk => cases hk; exact ⟨19, by omega, rfl⟩
    | 26, hk => cases hk; exact ⟨20, by omega, rfl⟩
    | 27, hk => cases hk; exact ⟨21, by omega, rfl⟩
    | 28, hk => cases hk; exact ⟨22, by omega, rfl⟩
    | k + 29, hk => simp [vd_wd] at hk
set_option maxHeartbeats 4000000 in
set_option maxRecDepth 100000 in
theorem whole_start {p : Program} {e : Env} {s : State} {m : MethodId} {below : List Frame} {meth : Method} {c : Code} (l : Launch) {b L : Nat} {xs : Nat → Int32} (hL : L ≤ 1536) (C0 : lw_At p s m meth c b L xs) : W p l e room_1 s m #[Value.ref b] below meth c s.heap [] 0 0 (lw_Z below #[Value.ref b] s) (entryFrame m ([Value.ref b] : List Value).toArray 4) := by
  obtain ⟨hx, hb, hr, hml, hown, htw, hX, hbl, hlocks, hgv⟩ := id C0
  have hts : ∀ w ∈ vd_tbl, w.before #[Value.ref b] s = true := fun w hw => htw w (List.mem_filter.mp hw).1
  obtain ⟨D, hK⟩ := ls_K hts
  have CX : vd_Cx p s m c code 4 #[Value.ref b] R_law D := ⟨hx, hb, hml, hown, hts, hK⟩
  have hA : ∀ q : Nat, s.heap.size ≤ q → (fun q : Nat => s.heap.size ≤ q) q := fun _ h => h
  have hS : va_S (fun q : Nat => s.heap.size ≤ q) s.heap s.heap [] := va_S.rf
  have hP : va_P D vwCl [] s.heap := fun k q h => by simp at h
  have hD : va_D (fun q : Nat => s.heap.size ≤ q) [] := ⟨fun i j p q h => by simp at h, fun k q h => by simp at h⟩
  have hl := lv_entry ([.ref b]) (n := 4) (Nat.le_of_ble_eq_true rfl)
  rw [lg_entry_eq]
  generalize (lg_sl ([.ref b]) ++ List.replicate (4 - (lg_sl ([.ref b])).length) Slot.unset).toArray = ls at hl ⊢
  have hl : lv_has ls 4 [(0, .ref b)] := hl
  refine va_new (ci := 3) (fs := [.null, .null, .null, .null, .null, .int (nI 0), .int (nI 0), .int (nI 0)]) (C := R_D) (T := T_D) (N := 8) hx hb hts in_D ty_D tyok_D hown (hts _ ci_cl_L_7) (hts _ ci_in_D) (hts _ ci_it_D) hK hP hD hS hA rfl (fun j hj => by rcases (show j = 0 ∨ j = 1 ∨ j = 2 ∨ j = 3 ∨ j = 4 ∨ j = 5 ∨ j = 6 ∨ j = 7 by omega) with rfl | rfl | rfl | rfl | rfl | rfl | rfl | rfl <;> rfl) (Nat.le_of_ble_eq_true rfl) (Nat.le_of_ble_eq_true rfl) d_law_0 (fun q0 H hP hD hS => ?_)
  have hP : va_P D vwCl [(q0, .inr (3, [.null, .null, .null, .null, .null, .int (nI 0), .int (nI 0), .int (nI 0)]))] H := hP
  have hD : va_D (fun q : Nat => s.heap.size ≤ q) [(q0, .inr (3, [.null, .null, .null, .null, .null, .int (nI 0), .int (nI 0), .int (nI 0)]))] := hD
  refine lv_dup hx hb d_law_3 rfl ?_
  refine ci_call (n := 0) (rest := [.ref q0]) (wr := []) CX (i_D l D q0) mo_D_init wi_D_init rfl ml_L_9 hP hD hS hA 0 [] rfl rfl rfl (by decide) rfl rfl ⟨Nat.le_of_ble_eq_true rfl, Nat.le_of_ble_eq_true rfl⟩ rfl rfl hl.1 (Nat.le_of_ble_eq_true rfl) d_law_4 ⟨Nat.le_of_ble_eq_true rfl, Nat.le_of_ble_eq_true rfl⟩ (fun a1 H locs hP hD hS => ?_)
  have hP : va_P D vwCl [(q0, .inr (3, [.ref (a1 31), .ref (a1 0), .ref (a1 1), .ref (a1 2), .ref (a1 3), .int (nI 0), .int (nI 0), .int (nI 0)])), (a1 31, .inr (2, [.ref (a1 32), .ref (a1 33), .ref (a1 34), .ref (a1 4), .ref (a1 5), .ref (a1 6), .ref (a1 7), .ref (a1 8), .int (nI 0), .int (nI 0)])), (a1 32, .inr (0, [.ref (a1 9)])), (a1 9, .inl (D.1 52, 157, .inr (.inl (fun _ => lN 0)))), (a1 33, .inr (1, [.ref (a1 10), .ref (a1 11), .int (nI 0)])), (a1 10, .inl (D.1 50, (120 + 1) * 4, .inl (fun _ => nI 0))), (a1 11, .inl (D.1 51, 120 + 1, .inl (fun _ => nI 0))), (a1 34, .inr (1, [.ref (a1 12), .ref (a1 13), .int (nI 0)])), (a1 12, .inl (D.1 50, (30 + 1) * 4, .inl (fun _ => nI 0))), (a1 13, .inl (D.1 51, 30 + 1, .inl (fun _ => nI 0))), (a1 4, .inl (D.1 50, 31, .inl (fun _ => nI 0))), (a1 5, .inl (D.1 50, 31, .inl (fun _ => nI 0))), (a1 6, .inl (D.1 50, 31, .inl (fun _ => nI 0))), (a1 7, .inl (D.1 50, 31, .inl (fun _ => nI 0))), (a1 8, .inl (D.1 50, 4, .inl (fun _ => nI 0))), (a1 0, .inl (D.1 50, 16, .inl (fun _ => nI 0))), (a1 1, .inl (D.1 50, 16, .inl (fun _ => nI 0))), (a1 2, .inl (D.1 50, 16, .inl (fun _ => nI 0))), (a1 3, .inl (D.1 50, 6, .inl (fun _ => nI 0)))] H := hP
  have hD : va_D (fun q : Nat => s.heap.size ≤ q) [(q0, .inr (3, [.ref (a1 31), .ref (a1 0), .ref (a1 1), .ref (a1 2), .ref (a1 3), .int (nI 0), .int (nI 0), .int (nI 0)])), (a1 31, .inr (2, [.ref (a1 32), .ref (a1 33), .ref (a1 34), .ref (a1 4), .ref (a1 5), .ref (a1 6), .ref (a1 7), .ref (a1 8), .int (nI 0), .int (nI 0)])), (a1 32, .inr (0, [.ref (a1 9)])), (a1 9, .inl (D.1 52, 157, .inr (.inl (fun _ => lN 0)))), (a1 33, .inr (1, [.ref (a1 10), .ref (a1 11), .int (nI 0)])), (a1 10, .inl (D.1 50, (120 + 1) * 4, .inl (fun _ => nI 0))), (a1 11, .inl (D.1 51, 120 + 1, .inl (fun _ => nI 0))), (a1 34, .inr (1, [.ref (a1 12), .ref (a1 13), .int (nI 0)])), (a1 12, .inl (D.1 50, (30 + 1) * 4, .inl (fun _ => nI 0))), (a1 13, .inl (D.1 51, 30 + 1, .inl (fun _ => nI 0))), (a1 4, .inl (D.1 50, 31, .inl (fun _ => nI 0))), (a1 5, .inl (D.1 50, 31, .inl (fun _ => nI 0))), (a1 6, .inl (D.1 50, 31, .inl (fun _ => nI 0))), (a1 7, .inl (D.1 50, 31, .inl (fun _ => nI 0))), (a1 8, .inl (D.1 50, 4, .inl (fun _ => nI 0))), (a1 0, .inl (D.1 50, 16, .inl (fun _ => nI 0))), (a1 1, .inl (D.1 50, 16, .inl (fun _ => nI 0))), (a1 2, .inl (D.1 50, 16, .inl (fun _ => nI 0))), (a1 3, .inl (D.1 50, 6, .inl (fun _ => nI 0)))] := hD
  refine lv_astore_n (lv' := [(1, .ref q0), (0, .ref b)]) hx hb d_law_7 rfl hl (by decide) rfl (fun ls hl => ?_)
  refine va_new (ci := 4) (fs := [.null, .null, .null, .null, .int (nI 0), .null, .int (nI 0), .int (nI 0), .null, .null, .null, .null]) (C := R_M) (T := T_M) (N := 12) hx hb hts in_M ty_M tyok_M hown (hts _ ci_cl_L_10) (hts _ ci_in_M) (hts _ ci_it_M) hK hP hD hS hA rfl (fun j hj => by rcases (show j = 0 ∨ j = 1 ∨ j = 2 ∨ j = 3 ∨ j = 4 ∨ j = 5 ∨ j = 6 ∨ j = 7 ∨ j = 8 ∨ j = 9 ∨ j = 10 ∨ j = 11 by omega) with rfl | rfl | rfl | rfl | rfl | rfl | rfl | rfl | rfl | rfl | rfl | rfl <;> rfl) (Nat.le_of_ble_eq_true rfl) (Nat.le_of_ble_eq_true rfl) d_law_8 (fun q2 H hP hD hS => ?_)
  have hP : va_P D vwCl [(q0, .inr (3, [.ref (a1 31), .ref (a1 0), .ref (a1 1), .ref (a1 2), .ref (a1 3), .int (nI 0), .int (nI 0), .int (nI 0)])), (a1 31, .inr (2, [.ref (a1 32), .ref (a1 33), .ref (a1 34), .ref (a1 4), .ref (a1 5), .ref (a1 6), .ref (a1 7), .ref (a1 8), .int (nI 0), .int (nI 0)])), (a1 32, .inr (0, [.ref (a1 9)])), (a1 9, .inl (D.1 52, 157, .inr (.inl (fun _ => lN 0)))), (a1 33, .inr (1, [.ref (a1 10), .ref (a1 11), .int (nI 0)])), (a1 10, .inl (D.1 50, (120 + 1) * 4, .inl (fun _ => nI 0))), (a1 11, .inl (D.1 51, 120 + 1, .inl (fun _ => nI 0))), (a1 34, .inr (1, [.ref (a1 12), .ref (a1 13), .int (nI 0)])), (a1 12, .inl (D.1 50, (30 + 1) * 4, .inl (fun _ => nI 0))), (a1 13, .inl (D.1 51, 30 + 1, .inl (fun _ => nI 0))), (a1 4, .inl (D.1 50, 31, .inl (fun _ => nI 0))), (a1 5, .inl (D.1 50, 31, .inl (fun _ => nI 0))), (a1 6, .inl (D.1 50, 31, .inl (fun _ => nI 0))), (a1 7, .inl (D.1 50, 31, .inl (fun _ => nI 0))), (a1 8, .inl (D.1 50, 4, .inl (fun _ => nI 0))), (a1 0, .inl (D.1 50, 16, .inl (fun _ => nI 0))), (a1 1, .inl (D.1 50, 16, .inl (fun _ => nI 0))), (a1 2, .inl (D.1 50, 16, .inl (fun _ => nI 0))), (a1 3, .inl (D.1 50, 6, .inl (fun _ => nI 0))), (q2, .inr (4, [.null, .null, .null, .null, .int (nI 0), .null, .int (nI 0), .int (nI 0), .null, .null, .null, .null]))] H := hP
  have hD : va_D (fun q : Nat => s.heap.size ≤ q) [(q0, .inr (3, [.ref (a1 31), .ref (a1 0), .ref (a1 1), .ref (a1 2), .ref (a1 3), .int (nI 0), .int (nI 0), .int (nI 0)])), (a1 31, .inr (2, [.ref (a1 32), .ref (a1 33), .ref (a1 34), .ref (a1 4), .ref (a1 5), .ref (a1 6), .ref (a1 7), .ref (a1 8), .int (nI 0), .int (nI 0)])), (a1 32, .inr (0, [.ref (a1 9)])), (a1 9, .inl (D.1 52, 157, .inr (.inl (fun _ => lN 0)))), (a1 33, .inr (1, [.ref (a1 10), .ref (a1 11), .int (nI 0)])), (a1 10, .inl (D.1 50, (120 + 1) * 4, .inl (fun _ => nI 0))), (a1 11, .inl (D.1 51, 120 + 1, .inl (fun _ => nI 0))), (a1 34, .inr (1, [.ref (a1 12), .ref (a1 13), .int (nI 0)])), (a1 12, .inl (D.1 50, (30 + 1) * 4, .inl (fun _ => nI 0))), (a1 13, .inl (D.1 51, 30 + 1, .inl (fun _ => nI 0))), (a1 4, .inl (D.1 50, 31, .inl (fun _ => nI 0))), (a1 5, .inl (D.1 50, 31, .inl (fun _ => nI 0))), (a1 6, .inl (D.1 50, 31, .inl (fun _ => nI 0))), (a1 7, .inl (D.1 50, 31, .inl (fun _ => nI 0))), (a1 8, .inl (D.1 50, 4, .inl (fun _ => nI 0))), (a1 0, .inl (D.1 50, 16, .inl (fun _ => nI 0))), (a1 1, .inl (D.1 50, 16, .inl (fun _ => nI 0))), (a1 2, .inl (D.1 50, 16, .inl (fun _ => nI 0))), (a1 3, .inl (D.1 50, 6, .inl (fun _ => nI 0))), (q2, .inr (4, [.null, .null, .null, .null, .int (nI 0), .null, .int (nI 0), .int (nI 0), .null, .null, .null, .null]))] := hD
  refine lv_dup hx hb d_law_11 rfl ?_
  refine ci_call (n := 0) (rest := [.ref q2]) (wr := [(q0, .inr (3, [.ref (a1 31), .ref (a1 0), .ref (a1 1), .ref (a1 2), .ref (a1 3), .int (nI 0), .int (nI 0), .int (nI 0)])), (a1 31, .inr (2, [.ref (a1 32), .ref (a1 33), .ref (a1 34), .ref (a1 4), .ref (a1 5), .ref (a1 6), .ref (a1 7), .ref (a1 8), .int (nI 0), .int (nI 0)])), (a1 32, .inr (0, [.ref (a1 9)])), (a1 9, .inl (D.1 52, 157, .inr (.inl (fun _ => lN 0)))), (a1 33, .inr (1, [.ref (a1 10), .ref (a1 11), .int (nI 0)])), (a1 10, .inl (D.1 50, (120 + 1) * 4, .inl (fun _ => nI 0))), (a1 11, .inl (D.1 51, 120 + 1, .inl (fun _ => nI 0))), (a1 34, .inr (1, [.ref (a1 12), .ref (a1 13), .int (nI 0)])), (a1 12, .inl (D.1 50, (30 + 1) * 4, .inl (fun _ => nI 0))), (a1 13, .inl (D.1 51, 30 + 1, .inl (fun _ => nI 0))), (a1 4, .inl (D.1 50, 31, .inl (fun _ => nI 0))), (a1 5, .inl (D.1 50, 31, .inl (fun _ => nI 0))), (a1 6, .inl (D.1 50, 31, .inl (fun _ => nI 0))), (a1 7, .inl (D.1 50, 31, .inl (fun _ => nI 0))), (a1 8, .inl (D.1 50, 4, .inl (fun _ => nI 0))), (a1 0, .inl (D.1 50, 16, .inl (fun _ => nI 0))), (a1 1, .inl (D.1 50, 16, .inl (fun _ => nI 0))), (a1 2, .inl (D.1 50, 16, .inl (fun _ => nI 0))), (a1 3, .inl (D.1 50, 6, .inl (fun _ => nI 0)))]) CX (i_M l D q2) mo_M_init wi_M_init rfl ml_L_12 hP hD hS hA 19 [0, 1, 2, 3, 4, 5, 6, 7, 8, 9, 10, 11, 12, 13, 14, 15, 16, 17, 18] rfl rfl rfl (by decide) rfl rfl ⟨Nat.le_of_ble_eq_true rfl, Nat.le_of_ble_eq_true rfl⟩ rfl rfl hl.1 (Nat.le_of_ble_eq_true rfl) d_law_12 ⟨Nat.le_of_ble_eq_true rfl, Nat.le_of_ble_eq_true rfl⟩ (fun a2 H locs hP hD hS => ?_)
  have hP : va_P D vwCl [(q0, .inr (3, [.ref (a1 31), .ref (a1 0), .ref (a1 1), .ref (a1 2), .ref (a1 3), .int (nI 0), .int (nI 0), .int (nI 0)])), (a1 31, .inr (2, [.ref (a1 32), .ref (a1 33), .ref (a1 34), .ref (a1 4), .ref (a1 5), .ref (a1 6), .ref (a1 7), .ref (a1 8), .int (nI 0), .int (nI 0)])), (a1 32, .inr (0, [.ref (a1 9)])), (a1 9, .inl (D.1 52, 157, .inr (.inl (fun _ => lN 0)))), (a1 33, .inr (1, [.ref (a1 10), .ref (a1 11), .int (nI 0)])), (a1 10, .inl (D.1 50, (120 + 1) * 4, .inl (fun _ => nI 0))), (a1 11, .inl (D.1 51, 120 + 1, .inl (fun _ => nI 0))), (a1 34, .inr (1, [.ref (a1 12), .ref (a1 13), .int (nI 0)])), (a1 12, .inl (D.1 50, (30 + 1) * 4, .inl (fun _ => nI 0))), (a1 13, .inl (D.1 51, 30 + 1, .inl (fun _ => nI 0))), (a1 4, .inl (D.1 50, 31, .inl (fun _ => nI 0))), (a1 5, .inl (D.1 50, 31, .inl (fun _ => nI 0))), (a1 6, .inl (D.1 50, 31, .inl (fun _ => nI 0))), (a1 7, .inl (D.1 50, 31, .inl (fun _ => nI 0))), (a1 8, .inl (D.1 50, 4, .inl (fun _ => nI 0))), (a1 0, .inl (D.1 50, 16, .inl (fun _ => nI 0))), (a1 1, .inl (D.1 50, 16, .inl (fun _ => nI 0))), (a1 2, .inl (D.1 50, 16, .inl (fun _ => nI 0))), (a1 3, .inl (D.1 50, 6, .inl (fun _ => nI 0))), (q2, .inr (4, [.ref (a2 14), .ref (a2 15), .ref (a2 16), .ref (a2 17), .int (nI 0), .ref (a2 18), .int (nI 0), .int (nI 0), .ref (a2 19), .ref (a2 20), .ref (a2 21), .ref (a2 22)])), (a2 14, .inl (D.1 50, 544, .inl (fun _ => nI 0))), (a2 15, .inl (D.1 51, 31, .inl (fun _ => nI 0))), (a2 16, .inl (D.1 50, 31, .inl (fun _ => nI 0))), (a2 17, .inl (D.1 50, 31, .inl (fun _ => nI 0))), (a2 18, .inl (D.1 50, 6, .inl (fun _ => nI 0))), (a2 19, .inl (D.1 51, 16, .inl (fun _ => nI 0))), (a2 20, .inl (D.1 51, 10000, .inl (fun _ => nI 0))), (a2 21, .inl (D.1 51, 31, .inl (fun _ => nI 0))), (a2 22, .inl (D.1 51, 31, .inl (fun _ => nI 0)))] H := hP
  have hD : va_D (fun q : Nat => s.heap.size ≤ q) [(q0, .inr (3, [.ref (a1 31), .ref (a1 0), .ref (a1 1), .ref (a1 2), .ref (a1 3), .int (nI 0), .int (nI 0), .int (nI 0)])), (a1 31, .inr (2, [.ref (a1 32), .ref (a1 33), .ref (a1 34), .ref (a1 4), .ref (a1 5), .ref (a1 6), .ref (a1 7), .ref (a1 8), .int (nI 0), .int (nI 0)])), (a1 32, .inr (0, [.ref (a1 9)])), (a1 9, .inl (D.1 52, 157, .inr (.inl (fun _ => lN 0)))), (a1 33, .inr (1, [.ref (a1 10), .ref (a1 11), .int (nI 0)])), (a1 10, .inl (D.1 50, (120 + 1) * 4, .inl (fun _ => nI 0))), (a1 11, .inl (D.1 51, 120 + 1, .inl (fun _ => nI 0))), (a1 34, .inr (1, [.ref (a1 12), .ref (a1 13), .int (nI 0)])), (a1 12, .inl (D.1 50, (30 + 1) * 4, .inl (fun _ => nI 0))), (a1 13, .inl (D.1 51, 30 + 1, .inl (fun _ => nI 0))), (a1 4, .inl (D.1 50, 31, .inl (fun _ => nI 0))), (a1 5, .inl (D.1 50, 31, .inl (fun _ => nI 0))), (a1 6, .inl (D.1 50, 31, .inl (fun _ => nI 0))), (a1 7, .inl (D.1 50, 31, .inl (fun _ => nI 0))), (a1 8, .inl (D.1 50, 4, .inl (fun _ => nI 0))), (a1 0, .inl (D.1 50, 16, .inl (fun _ => nI 0))), (a1 1, .inl (D.1 50, 16, .inl (fun _ => nI 0))), (a1 2, .inl (D.1 50, 16, .inl (fun _ => nI 0))), (a1 3, .inl (D.1 50, 6, .inl (fun _ => nI 0))), (q2, .inr (4, [.ref (a2 14), .ref (a2 15), .ref (a2 16), .ref (a2 17), .int (nI 0), .ref (a2 18), .int (nI 0), .int (nI 0), .ref (a2 19), .ref (a2 20), .ref (a2 21), .ref (a2 22)])), (a2 14, .inl (D.1 50, 544, .inl (fun _ => nI 0))), (a2 15, .inl (D.1 51, 31, .inl (fun _ => nI 0))), (a2 16, .inl (D.1 50, 31, .inl (fun _ => nI 0))), (a2 17, .inl (D.1 50, 31, .inl (fun _ => nI 0))), (a2 18, .inl (D.1 50, 6, .inl (fun _ => nI 0))), (a2 19, .inl (D.1 51, 16, .inl (fun _ => nI 0))), (a2 20, .inl (D.1 51, 10000, .inl (fun _ => nI 0))), (a2 21, .inl (D.1 51, 31, .inl (fun _ => nI 0))), (a2 22, .inl (D.1 51, 31, .inl (fun _ => nI 0)))] := hD
  refine lv_astore_n (lv' := [(2, .ref q2), (1, .ref q0), (0, .ref b)]) hx hb d_law_15 rfl hl (by decide) rfl (fun ls hl => ?_)
  refine lv_iconst (v := nI 0) hx hb d_law_16 (by decide) ?_
  refine lv_istore_n (lv' := [(3, .int (nI 0)), (2, .ref q2), (1, .ref q0), (0, .ref b)]) hx hb d_law_17 rfl hl (by decide) rfl (fun ls hl => ?_)
  refine W.widen (k := 600000) (n := 7302250) (Nat.le_of_ble_eq_true rfl) (Nat.le_of_ble_eq_true rfl) ?_
  refine va_forget (fun q hq => hS.2.2 q hq) ?_
  obtain ⟨ad, had⟩ : ∃ ad : Nat → Nat, ad = (fun j => if j = 30 then q0 else if j = 35 then q2 else if j = 14 then a2 14 else if j = 15 then a2 15 else if j = 16 then a2 16 else if j = 17 then a2 17 else if j = 18 then a2 18 else if j = 19 then a2 19 else if j = 20 then a2 20 else if j = 21 then a2 21 else if j = 22 then a2 22 else a1 j) := ⟨_, rfl⟩
  have hP9 : va_P D vwCl (vd_wd D ad (fun _ _ => 0)) H := by rw [had]; exact hP.sub [0, 1, 2, 4, 7, 19, 15, 16, 17, 18, 10, 11, 12, 13, 14, 3, 5, 6, 8, 9, 20, 21, 22, 23, 24, 25, 26, 27, 28] rfl
  have hD9 : va_D (fun q : Nat => s.heap.size ≤ q) (vd_wd D ad (fun _ _ => 0)) := by rw [had]; exact hD.sub [0, 1, 2, 4, 7, 19, 15, 16, 17, 18, 10, 11, 12, 13, 14, 3, 5, 6, 8, 9, 20, 21, 22, 23, 24, 25, 26, 27, 28] (by decide) rfl
  obtain ⟨hAd, hD8⟩ := ls_Ad hD9
  have HW : vd_WS D ad s (fun _ _ => 0) H [] := ⟨hP9, hD8, ⟨hS.1, fun q hq _ => hS.2.1 q hq (Nat.not_le.mpr hq), fun _ h => by cases h⟩, fun _ _ _ => Nat.zero_le _⟩
  have a30 : ad 30 = q0 := by rw [had]; rfl
  have a35 : ad 35 = q2 := by rw [had]; rfl
  exact law_loop hL C0 hK hAd (L + 4) 0 (by omega) (by omega) _ H [] HW vd_Rel_0 (fun z => absurd rfl z) ls (by rw [a30, a35]; exact lv_sub hl [3, 2, 1, 0] rfl)
-- ===== YOUR PART ENDS =====
set_option maxHeartbeats 4000000 in
theorem lw_walk (l : Launch) (b : Addr) (xs : List Int32) : MetFree l x (headSpec (Jvm.Cond.code x code maxLocals ret :: tables_1) room_1) (lw_P b xs) (fun _ _ _ _ _ => True) lw_Q := by
  refine MetFree.of_bodyS (code := code) (maxLocals := maxLocals) (ret := ret) (by decide) ?_ ?_
  · intro args s m h hn
    obtain ⟨meth, c, h1, h2, h3, h4, h5, h6, -, -⟩ := Cond.code_spec hn (atoms_spec (ws := Jvm.Cond.code x code maxLocals ret :: tables_1) h _ List.mem_cons_self)
    exact ⟨meth, c, h1, h2, h3, h4, h5, h6⟩
  · intro p e s m args below meth c s₁ B hml0 hP _
    obtain ⟨rfl, hx, hbd, hgv⟩ := hP
    obtain ⟨scr, harrAt, hlist, hof, hsmall⟩ := hx
    obtain ⟨hcb, hkn, -, -⟩ := State.arrayAt?_spec harrAt
    have hown : s.vm.findClass R_law = some m.cls := findClass_of_methodNamed B.named
    have hts0 : ∀ c ∈ (Jvm.Cond.code x code maxLocals ret :: tables_1), c.before #[Value.ref b] s = true := atoms_spec (ws := Jvm.Cond.code x code maxLocals ret :: tables_1) B.pre
    have hts : ∀ w ∈ lw_tbl, w.before #[Value.ref b] s = true := k2_hts_sels lw_privs (fun w hw => hts0 w (List.mem_cons_of_mem _ hw)) lw_privs_ok
    have hml : c.maxLocals = 4 := B.maxLocals_eq (hts0 _ List.mem_cons_self)
    have X₀ : Stand p l e room_1 s m #[Value.ref b] below meth c s₁ [] 0 0 := Stand.of_body B
    have hh0 : s₁.heap = s.heap := by rw [B.state]; rfl
    have hsz : scr.slots.size = xs.length := by rw [← Array.length_toList, hlist, List.length_map]
    have hval : ∀ j : Nat, j < xs.length → scr.slots[j]? = some (.int (xs.getD j 0)) := fun j hj => by
      rw [← Array.getElem?_toList, hlist]
      simp [hj]
    have hbl : b < s.heap.size := (Array.getElem?_eq_some_iff.mp hcb).1
    have hX : va_X b xs.length (fun j => xs.getD j 0) s s.heap := ⟨scr, hcb, hof, hkn, hsz, hval⟩
    have K : W p l e room_1 s m #[Value.ref b] below meth c s₁.heap [] 0 0 (lw_Z below #[Value.ref b] s) (entryFrame m ([Value.ref b] : List Value).toArray 4) := by
      rw [hh0]
      exact whole_start l hbd ⟨B.exec, B.bytes, B.returns, hml, hown, hts, hX, hbl, B.notSynchronized, hgv⟩
    obtain ⟨t, a1, o, b1, b2, b3⟩ := K s₁ rfl X₀
    exact ⟨t, o, a1, b1, b2, b3⟩
theorem lw_pre_spec {args : Array Value} {s : State} (h : (Jvm.Cond.and given_1 narrow_1).before args s = true) (hr : rest_1_c.before args s = true) : ∃ (b : Addr) (xs : List Int32), lw_P b xs args s := by
  have hs := flat_of_before _ h
  have hq := flat_of_before _ hr
  have hc : (Cond.count 1).before args s = true := hs _ (by decide +kernel)
  have harr : (Cond.arrayOf (.arg 0) .int).before args s = true := hs _ (by decide +kernel)
  have hle : (Cond.le (.length (.arg 0)) (.int 1536)).before args s = true := hs _ (by decide +kernel)
  have hlen : (Cond.isInt (.length (.arg 0))).before args s = true := hq _ (by decide +kernel)
  have hall : (Cond.all (.arg 0) (.isInt (.elem (.arg 0) (.index 0)))).before args s = true := hq _ (by decide +kernel)
  obtain ⟨b, xs, hb, hx⟩ := State.ints_of_pre rfl harr hlen hall
  have hsm : xs.length < 2 ^ 31 := hx.choose_spec.2.2.2
  have hev : (Term.length (.arg 0)).eval args s none [] s = some (.int xs.length.toInt32) := hx.length_eval hb
  have hv := Cond.le_ints hev (show (Term.int 1536).eval args s none [] s = some (.int 1536) from rfl)
  have hd : xs.length.toInt32 ≤ 1536 := by
    simpa [Cond.before, Cond.holds, hv] using hle
  have hN : xs.length ≤ 1536 := (Int32.ofNat_le_ofNat hsm (by decide)).mp (show Int32.ofNat xs.length ≤ Int32.ofNat 1536 from hd)
  exact ⟨b, xs, Cond.one_arg hc (show args[0]? = some (.ref b) from hb), hx, hN, h⟩
theorem lw_comes (l : Launch) : Comes l x (Jvm.Cond.code x code maxLocals ret :: tables_1) room_1 (fun tb e args s => Calls_1 tb e args s ∧ rest_1 tb e args s ∧ Pre_1 tb e args s)
    (fun _ _ args s o t => lw_Q args s o t) := by
  intro p e ha hc hk s m args below hf hfit hheap happ hpre
  obtain ⟨b, xs, hP⟩ := lw_pre_spec hpre.2.2 hpre.2.1
  obtain ⟨k, o, h1, h2, h3, hQ⟩ := lw_walk l b xs p e ha hc hk s m args below hf ((Spec.applies_iff_loose hf).mp happ).1 hP trivial
  exact ⟨k, o, h1, h2, h3, hQ⟩
theorem lw_frame {s t : State} {o : Outcome} {args : Array Value} (h : Framed s o t [] 600000 7302250) :
    Framed s o t (fieldLocs frame_1_writes args s ++ arrayLocs frame_1_arrays args s ++ staticLocs frame_1_statics s) 600000 7302250 := h
theorem lw_limb (L : Cond) (hL : ∀ (args : Array Value) (s t : State), L.after args s (.returned (some (.int 1))) t = true) :
    ArmFor flags0 classFile x code maxLocals ret World_1 tables_1 room_1 Calls_1 rest_1 Pre_1
      (fun tb e a s o t => postC L tb e a s o t ∧ Framed s o t (fieldLocs frame_1_writes a s ++ arrayLocs frame_1_arrays a s ++ staticLocs frame_1_statics s) 600000 7302250) := by
  intro l _ _ _ p e ha hc hk s m args below hf hfit hheap happ hpre
  obtain ⟨k, o, h1, h2, h3, rfl, hF⟩ := lw_comes l p e ha hc hk s m args below hf hfit hheap happ hpre
  exact ⟨k, _, h1, h2, h3, hL args s _, lw_frame hF⟩
theorem i_vc : Claimed_1_1 ∧ Claimed_1_2 := ⟨lw_limb limb_1_1 (fun args s t => by simp [limb_1_1, Cond.after, Cond.holds, Cond.value]), lw_limb limb_1_2 (fun args s t => Cond.after_iff.mpr (by
  first | (rw [show limb_1_2 = Cond.eq .result (.int 1) from rfl, Cond.eq_ints (x := 1) (y := 1) rfl rfl]; simp; done) | (simp [limb_1_2, Cond.value, Term.eval]; done)))⟩
