set_option maxHeartbeats 1000000 in
set_option maxRecDepth 100000 in
theorem k_isFile (l : Launch) (D : va_G) (ad : Nat → Nat) (K : KT) (x : Int32)  : vd_MI l y_D_isFile c_D_isFile 1 (some .boolean) 0 0 D ad [.int x] K (fun (ans : Int32) (K' : KT) => K = K' ∧ ans = (vd_b (vd_in 0 15 x))) := by
  refine vd_entZ (by decide) (Nat.le_of_ble_eq_true rfl) (lv := [(0, .int x)]) rfl ?_
  intro p e s m args below meth cd ls Q CX hl H locs HW RET
  have hx := CX.1
  have hb := CX.2.1
  refine lv_iload_n hx hb d_D_isFile_0 rfl (lv_at hl 0 rfl) ?_
  refine lv_if_lt (tgt := 14) hx hb d_D_isFile_1 (by decide) (fun c_1 => ?_) (fun c_1 => ?_)
  · refine lv_iconst (v := (nI 0)) hx hb d_D_isFile_14 (by decide) ?_
    exact RET false _ _ _ _ _ d_D_isFile_15 (by first | (simp only [vd_geI (show 16 < 2 ^ 31 by decide)] at c_7; (refine ⟨rfl, ?_⟩; (· rw [vd_in_h (by omega)]))) | (simp only [vd_ltZ] at c_1; (refine ⟨rfl, ?_⟩; (· rw [vd_in_l (by omega)])))) HW
  · refine lv_iload_n hx hb d_D_isFile_4 rfl (lv_at hl 0 rfl) ?_
    refine lv_bipush (v := (nI 16)) hx hb d_D_isFile_5 (by decide) ?_
    refine lv_icmp_ge (tgt := 14) hx hb d_D_isFile_7 (by decide) (fun c_7 => ?_) (fun c_7 => ?_)
    · refine lv_iconst (v := (nI 0)) hx hb d_D_isFile_14 (by decide) ?_
      exact RET false _ _ _ _ _ d_D_isFile_15 (by first | (simp only [vd_geI (show 16 < 2 ^ 31 by decide)] at c_7; (refine ⟨rfl, ?_⟩; (· rw [vd_in_h (by omega)]))) | (simp only [vd_ltZ] at c_1; (refine ⟨rfl, ?_⟩; (· rw [vd_in_l (by omega)])))) HW
    · refine lv_iconst (v := (nI 1)) hx hb d_D_isFile_10 (by decide) ?_
      refine lv_goto (tgt := 15) hx hb d_D_isFile_11 (by decide) ?_
      exact RET true _ _ _ _ _ d_D_isFile_15 (by simp only [vd_ltZ, vd_geI (show 16 < 2 ^ 31 by decide)] at c_1 c_7; (refine ⟨rfl, ?_⟩; (· rw [vd_in_y (by omega) (by omega)]))) HW
set_option maxHeartbeats 1000000 in
set_option maxRecDepth 100000 in
theorem k_isBranch (l : Launch) (D : va_G) (ad : Nat → Nat) (K : KT) (x : Int32)  : vd_MI l y_D_isBranch c_D_isBranch 1 (some .boolean) 0 0 D ad [.int x] K (fun (ans : Int32) (K' : KT) => K = K' ∧ ans = (vd_b (vd_in 0 5 x))) := by
  refine vd_entZ (by decide) (Nat.le_of_ble_eq_true rfl) (lv := [(0, .int x)]) rfl ?_
  intro p e s m args below meth cd ls Q CX hl H locs HW RET
  have hx := CX.1
  have hb := CX.2.1
  refine lv_iload_n hx hb d_D_isBranch_0 rfl (lv_at hl 0 rfl) ?_
  refine lv_if_lt (tgt := 14) hx hb d_D_isBranch_1 (by decide) (fun c_1 => ?_) (fun c_1 => ?_)
  · refine lv_iconst (v := (nI 0)) hx hb d_D_isBranch_14 (by decide) ?_
    exact RET false _ _ _ _ _ d_D_isBranch_15 (by first | (simp only [vd_geI (show 6 < 2 ^ 31 by decide)] at c_7; (refine ⟨rfl, ?_⟩; (· rw [vd_in_h (by omega)]))) | (simp only [vd_ltZ] at c_1; (refine ⟨rfl, ?_⟩; (· rw [vd_in_l (by omega)])))) HW
  · refine lv_iload_n hx hb d_D_isBranch_4 rfl (lv_at hl 0 rfl) ?_
    refine lv_bipush (v := (nI 6)) hx hb d_D_isBranch_5 (by decide) ?_
    refine lv_icmp_ge (tgt := 14) hx hb d_D_isBranch_7 (by decide) (fun c_7 => ?_) (fun c_7 => ?_)
    · refine lv_iconst (v := (nI 0)) hx hb d_D_isBranch_14 (by decide) ?_
      exact RET false _ _ _ _ _ d_D_isBranch_15 (by first | (simp only [vd_geI (show 6 < 2 ^ 31 by decide)] at c_7; (refine ⟨rfl, ?_⟩; (· rw [vd_in_h (by omega)]))) | (simp only [vd_ltZ] at c_1; (refine ⟨rfl, ?_⟩; (· rw [vd_in_l (by omega)])))) HW
    · refine lv_iconst (v := (nI 1)) hx hb d_D_isBranch_10 (by decide) ?_
      refine lv_goto (tgt := 15) hx hb d_D_isBranch_11 (by decide) ?_
      exact RET true _ _ _ _ _ d_D_isBranch_15 (by simp only [vd_ltZ, vd_geI (show 6 < 2 ^ 31 by decide)] at c_1 c_7; (refine ⟨rfl, ?_⟩; (· rw [vd_in_y (by omega) (by omega)]))) HW
set_option maxHeartbeats 1000000 in
set_option maxRecDepth 100000 in
theorem k_isThere (l : Launch) (D : va_G) (ad : Nat → Nat) (K : KT) (x : Int32)  : vd_MI l y_D_isThere c_D_isThere 2 (some .boolean) 1 20 D ad [.ref (ad 30), .int x] K (fun (ans : Int32) (K' : KT) => K = K' ∧ ans = (vd_b (vd_there K x))) := by
  refine vd_entZ (by decide) (Nat.le_of_ble_eq_true rfl) (lv := [(0, .ref (ad 30)), (1, .int x)]) rfl ?_
  intro p e s m args below meth cd ls Q CX hl H locs HW RET
  have hx := CX.1
  have hb := CX.2.1
  refine lv_iload_n hx hb d_D_isThere_0 rfl (lv_at hl 1 rfl) ?_
  refine vd_callSi (As := [.int x]) (rest := []) CX HW (k_isBranch l D ad K x) mo_D_isBranch wt_D_isBranch ml_D_69 rfl rfl ⟨Nat.le_of_ble_eq_true rfl, Nat.le_of_ble_eq_true rfl⟩ hl.1 (Nat.le_of_ble_eq_true rfl) d_D_isThere_1 ⟨Nat.zero_le _, Nat.zero_le _⟩ (fun r1 K2 H locs q3 HW => ?_)
  obtain ⟨rfl, rfl⟩ := q3
  refine vd_ifb_eq (tgt := 20) hx hb d_D_isThere_4 (by decide) (fun c_4 => ?_) (fun c_4 => ?_)
  · refine lv_iconst (v := (nI 0)) hx hb d_D_isThere_20 (by decide) ?_
    exact RET false _ _ _ _ _ d_D_isThere_21 (by first | (refine ⟨rfl, ?_⟩; unfold vd_there; rw [c_4, nI_clamp (show c < 2 ^ 31 by omega), c_13]; rfl) | (refine ⟨rfl, ?_⟩; unfold vd_there; rw [c_4]; rfl)) HW
  · obtain ⟨c, hc1, hc2, rfl⟩ := vd_in_t c_4
    refine lv_aload_n hx hb d_D_isThere_7 rfl (lv_at hl 0 rfl) ?_
    refine vg_30_tips CX HW lk_D_26 d_D_isThere_8 ?_
    refine lv_iload_n hx hb d_D_isThere_11 rfl (lv_at hl 1 rfl) ?_
    refine vd_iald CX HW (j := 3) (i := c) rfl (show c < 6 by omega) d_D_isThere_12 (fun b4 => ?_)
    have b4 : K 3 c ≤ 30 := b4
    refine vd_if_eq (tgt := 20) hx hb d_D_isThere_13 (by decide) (by omega) (fun c_13 => ?_) (fun c_13 => ?_)
    · refine lv_iconst (v := (nI 0)) hx hb d_D_isThere_20 (by decide) ?_
      exact RET false _ _ _ _ _ d_D_isThere_21 (by first | (refine ⟨rfl, ?_⟩; unfold vd_there; rw [c_4, nI_clamp (show c < 2 ^ 31 by omega), c_13]; rfl) | (refine ⟨rfl, ?_⟩; unfold vd_there; rw [c_4]; rfl)) HW
    · refine lv_iconst (v := (nI 1)) hx hb d_D_isThere_16 (by decide) ?_
      refine lv_goto (tgt := 21) hx hb d_D_isThere_17 (by decide) ?_
      exact RET true _ _ _ _ _ d_D_isThere_21 (by (refine ⟨rfl, ?_⟩; (· unfold vd_there; rw [c_4, nI_clamp (show c < 2 ^ 31 by omega), vd_bne c_13]; rfl))) HW
set_option maxHeartbeats 1000000 in
set_option maxRecDepth 100000 in
theorem k_here (l : Launch) (D : va_G) (ad : Nat → Nat) (K : KT)   : vd_MI l y_D_here c_D_here 1 (some .int) 0 0 D ad [.ref (ad 30)] K (fun (ans : Int32) (K' : KT) => K = K' ∧ ans = (nI (vd_here K)) ∧ vd_here K ≤ 30) := by
  refine vd_entI (by decide) (Nat.le_of_ble_eq_true rfl) (lv := [(0, .ref (ad 30))]) rfl ?_
  intro p e s m args below meth cd ls Q CX hl H locs HW RET
  have hx := CX.1
  have hb := CX.2.1
  refine lv_aload_n hx hb d_D_here_0 rfl (lv_at hl 0 rfl) ?_
  refine vg_30_tips CX HW lk_D_26 d_D_here_1 ?_
  refine lv_aload_n hx hb d_D_here_4 rfl (lv_at hl 0 rfl) ?_
  refine vg_30_head CX HW lk_D_58 d_D_here_5 (fun b1 => ?_)
  have b1 : K 40 0 ≤ 5 := b1
  refine vd_iald CX HW (j := 3) (i := (K 40 0)) rfl (show K 40 0 < 6 by omega) d_D_here_8 (fun b2 => ?_)
  have b2 : K 3 (K 40 0) ≤ 30 := b2
  exact RET _ _ _ _ _ _ d_D_here_9 (by (refine ⟨rfl, rfl, ?_⟩; (· unfold vd_here; omega))) HW
set_option maxHeartbeats 1000000 in
set_option maxRecDepth 100000 in
theorem k_unstaged (l : Launch) (D : va_G) (ad : Nat → Nat) (K : KT)   : vd_MI l y_D_unstaged c_D_unstaged 3 (some .int) 0 0 D ad [.ref (ad 30)] K (fun (ans : Int32) (K' : KT) => K = K' ∧ ans = (nI (vd_un K)) ∧ vd_un K ≤ 16) := by
  refine vd_entI (by decide) (Nat.le_of_ble_eq_true rfl) (lv := [(0, .ref (ad 30))]) rfl ?_
  intro p e s m args below meth cd ls Q CX hl H locs HW RET
  have hx := CX.1
  have hb := CX.2.1
  refine lv_iconst (v := (nI 0)) hx hb d_D_unstaged_0 (by decide) ?_
  refine lv_istore_n (lv' := [(1, .int (nI 0)), (0, .ref (ad 30))]) hx hb d_D_unstaged_1 rfl hl (by decide) rfl (fun ls hl => ?_)
  refine lv_iconst (v := (nI 0)) hx hb d_D_unstaged_2 (by decide) ?_
  refine lv_istore_n (lv' := [(2, .int (nI 0)), (1, .int (nI 0)), (0, .ref (ad 30))]) hx hb d_D_unstaged_3 rfl hl (by decide) rfl (fun ls hl => ?_)
  have loop4 : ∀ (n : Nat) (a : Nat) (i : Nat), (a = vd_cn (fun f => K 0 f != K 1 f) i) → (i ≤ 16) → (16 < i + n) → ∀ (H : Heap) (locs : List Loc) (ls : Array Slot), vd_WS D ad s K H locs → lv_has ls 3 [(0, .ref (ad 30)), (1, .int (nI a)), (2, .int (nI i))] → W p l e (vd_R 0 0) s m args below meth cd H locs 0 0 Q (F0 m 4 ls []) := by
    intro n
    induction n with
    | zero => intro a i ha hi hm; exfalso; omega
    | succ n ih4 =>
      intro a i ha hi hm H locs ls HW hl
      refine lv_iload_n hx hb d_D_unstaged_4 rfl (lv_at hl 2 rfl) ?_
      refine lv_bipush (v := (nI 16)) hx hb d_D_unstaged_5 (by decide) ?_
      refine vd_icmp_ge (tgt := 34) hx hb d_D_unstaged_7 (by decide) (by omega) (by omega) (fun c_7 => ?_) (fun c_7 => ?_)
      · refine lv_iload_n hx hb d_D_unstaged_34 rfl (lv_at hl 1 rfl) ?_
        exact RET _ _ _ _ _ _ d_D_unstaged_35 (by have e1 : i = 16 := (by omega); subst e1; (refine ⟨rfl, ?_, vd_cn_le _ _⟩; (· rw [ha]; rfl))) HW
      · refine lv_aload_n hx hb d_D_unstaged_10 rfl (lv_at hl 0 rfl) ?_
        refine vg_30_work CX HW lk_D_16 d_D_unstaged_11 ?_
        refine lv_iload_n hx hb d_D_unstaged_14 rfl (lv_at hl 2 rfl) ?_
        refine vd_iald CX HW (j := 0) (i := i) rfl (show i < 16 by omega) d_D_unstaged_15 (fun b1 => ?_)
        have b1 : K 0 i ≤ 9999 := b1
        refine lv_aload_n hx hb d_D_unstaged_16 rfl (lv_at hl 0 rfl) ?_
        refine vg_30_index CX HW lk_D_20 d_D_unstaged_17 ?_
        refine lv_iload_n hx hb d_D_unstaged_20 rfl (lv_at hl 2 rfl) ?_
        refine vd_iald CX HW (j := 1) (i := i) rfl (show i < 16 by omega) d_D_unstaged_21 (fun b2 => ?_)
        have b2 : K 1 i ≤ 9999 := b2
        refine vd_icmp_eq (tgt := 28) hx hb d_D_unstaged_22 (by decide) (by omega) (by omega) (fun c_22 => ?_) (fun c_22 => ?_)
        · refine lv_iinc (v := (nI (i + 1))) (lv' := [(2, .int (nI (i + 1))), (0, .ref (ad 30)), (1, .int (nI a))]) hx hb d_D_unstaged_28 hl (k := 2) rfl (vd_inc _ 1) (by decide) rfl (fun ls hl => ?_)
          refine lv_goto (tgt := 4) hx hb d_D_unstaged_31 (by decide) ?_
          exact ih4 a (i + 1) (by first | exact vd_cn_t ha (by simpa using c_22) | exact vd_cn_f ha (by simpa using c_22)) (by omega) (by omega) H locs ls HW (lv_sub hl [1, 2, 0] rfl)
        · refine lv_iinc (v := (nI (a + 1))) (lv' := [(1, .int (nI (a + 1))), (0, .ref (ad 30)), (2, .int (nI i))]) hx hb d_D_unstaged_25 hl (k := 1) rfl (vd_inc _ 1) (by decide) rfl (fun ls hl => ?_)
          refine lv_iinc (v := (nI (i + 1))) (lv' := [(2, .int (nI (i + 1))), (1, .int (nI (a + 1))), (0, .ref (ad 30))]) hx hb d_D_unstaged_28 hl (k := 2) rfl (vd_inc _ 1) (by decide) rfl (fun ls hl => ?_)
          refine lv_goto (tgt := 4) hx hb d_D_unstaged_31 (by decide) ?_
          exact ih4 (a + 1) (i + 1) (by first | exact vd_cn_t ha (by simpa using c_22) | exact vd_cn_f ha (by simpa using c_22)) (by omega) (by omega) H locs ls HW (lv_sub hl [2, 1, 0] rfl)
  exact loop4 17 0 0 (by rfl) (by omega) (by omega) H locs ls HW (lv_sub hl [2, 1, 0] rfl)
set_option maxHeartbeats 1000000 in
set_option maxRecDepth 100000 in
theorem k_ash_1 (l : Launch) (D : va_G) (ad : Nat → Nat) (K : KT)   : vd_MI l y_D_isAsHere c_D_isAsHere 3 (some .boolean) 2 44 D ad [.ref (ad 30), .ref (ad 1)] K (fun (ans : Int32) (K' : KT) => K = K' ∧ ans = (vd_b (vd_ash K 1))) := by
  refine vd_entZ (by decide) (Nat.le_of_ble_eq_true rfl) (lv := [(0, .ref (ad 30)), (1, .ref (ad 1))]) rfl ?_
  intro p e s m args below meth cd ls Q CX hl H locs HW RET
  have hx := CX.1
  have hb := CX.2.1
  refine lv_iconst (v := (nI 0)) hx hb d_D_isAsHere_0 (by decide) ?_
  refine lv_istore_n (lv' := [(2, .int (nI 0)), (0, .ref (ad 30)), (1, .ref (ad 1))]) hx hb d_D_isAsHere_1 rfl hl (by decide) rfl (fun ls hl => ?_)
  have loop2 : ∀ (n : Nat) (i : Nat), (∀ f, f < i → K 1 f = vd_cnt K (vd_here K) f) → (i ≤ 16) → (16 < i + n) → ∀ (H : Heap) (locs : List Loc) (ls : Array Slot), vd_WS D ad s K H locs → lv_has ls 3 [(0, .ref (ad 30)), (1, .ref (ad 1)), (2, .int (nI i))] → W p l e (vd_R 2 44) s m args below meth cd H locs 0 0 Q (F0 m 2 ls []) := by
    intro n
    induction n with
    | zero => intro i hi hi4 hm; exfalso; omega
    | succ n ih2 =>
      intro i hi hi4 hm H locs ls HW hl
      refine lv_iload_n hx hb d_D_isAsHere_2 rfl (lv_at hl 2 rfl) ?_
      refine lv_bipush (v := (nI 16)) hx hb d_D_isAsHere_3 (by decide) ?_
      refine vd_icmp_ge (tgt := 34) hx hb d_D_isAsHere_5 (by decide) (by omega) (by omega) (fun c_5 => ?_) (fun c_5 => ?_)
      · refine lv_iconst (v := (nI 1)) hx hb d_D_isAsHere_34 (by decide) ?_
        exact RET true _ _ _ _ _ d_D_isAsHere_35 (by (refine ⟨rfl, ?_⟩; (· rw [show vd_ash K 1 = true from vd_eqn_t (fun q hq => hi q (by omega))]))) HW
      · refine lv_aload_n hx hb d_D_isAsHere_8 rfl (lv_at hl 1 rfl) ?_
        refine lv_iload_n hx hb d_D_isAsHere_9 rfl (lv_at hl 2 rfl) ?_
        refine vd_iald CX HW (j := 1) (i := i) rfl (show i < 16 by omega) d_D_isAsHere_10 (fun b1 => ?_)
        have b1 : K 1 i ≤ 9999 := b1
        refine lv_aload_n hx hb d_D_isAsHere_11 rfl (lv_at hl 0 rfl) ?_
        refine vg_30_store CX HW lk_D_10 d_D_isAsHere_12 ?_
        refine lv_aload_n hx hb d_D_isAsHere_15 rfl (lv_at hl 0 rfl) ?_
        refine vd_callVi (As := []) (rest := [.ref (ad 31), .int (nI (K 1 i))]) CX HW (k_here l D ad K) mo_D_here wi_D_here ws_D_here (vr_30 CX HW) ml_D_61 rfl rfl ⟨Nat.le_of_ble_eq_true rfl, Nat.le_of_ble_eq_true rfl⟩ hl.1 (Nat.le_of_ble_eq_true rfl) d_D_isAsHere_16 ⟨Nat.zero_le _, Nat.zero_le _⟩ (fun r2 K3 H locs q4 HW => ?_)
        obtain ⟨rfl, rfl, b5⟩ := q4
        have b5 : vd_here K ≤ 30 := b5
        refine lv_iload_n hx hb d_D_isAsHere_19 rfl (lv_at hl 2 rfl) ?_
        refine vd_callVi (As := [.int (nI (vd_here K)), .int (nI i)]) (rest := [.int (nI (K 1 i))]) CX HW (k_contentOf l D ad K (vd_here K) i (by omega) (by omega)) mo_S_contentOf wi_S_contentOf ws_S_contentOf (vr_31 CX HW) ml_D_108 rfl rfl ⟨Nat.le_of_ble_eq_true rfl, Nat.le_of_ble_eq_true rfl⟩ hl.1 (Nat.le_of_ble_eq_true rfl) d_D_isAsHere_20 ⟨Nat.zero_le _, Nat.zero_le _⟩ (fun r6 K7 H locs q8 HW => ?_)
        obtain ⟨rfl, rfl, b9⟩ := q8
        have b9 : vd_cnt K (vd_here K) i ≤ 9999 := b9
        refine vd_icmp_eq (tgt := 28) hx hb d_D_isAsHere_23 (by decide) (by omega) (by omega) (fun c_23 => ?_) (fun c_23 => ?_)
        · refine lv_iinc (v := (nI (i + 1))) (lv' := [(2, .int (nI (i + 1))), (0, .ref (ad 30)), (1, .ref (ad 1))]) hx hb d_D_isAsHere_28 hl (k := 2) rfl (vd_inc _ 1) (by decide) rfl (fun ls hl => ?_)
          refine lv_goto (tgt := 2) hx hb d_D_isAsHere_31 (by decide) ?_
          exact ih2 (i + 1) (by intro q hq; by_cases e1 : q = i; (· subst e1; exact c_23); (· exact hi q (by omega))) (by omega) (by omega) H locs ls HW (lv_sub hl [1, 2, 0] rfl)
        · refine lv_iconst (v := (nI 0)) hx hb d_D_isAsHere_26 (by decide) ?_
          exact RET false _ _ _ _ _ d_D_isAsHere_27 (by (refine ⟨rfl, ?_⟩; (· rw [show vd_ash K 1 = false from vd_eqn_f (fun h => c_23 (h i (by omega)))]))) HW
  exact loop2 17 0 (by intro q hq; omega) (by omega) (by omega) H locs ls HW (lv_sub hl [1, 2, 0] rfl)
set_option maxHeartbeats 1000000 in
set_option maxRecDepth 100000 in
theorem k_ash_2 (l : Launch) (D : va_G) (ad : Nat → Nat) (K : KT)   : vd_MI l y_D_isAsHere c_D_isAsHere 3 (some .boolean) 2 44 D ad [.ref (ad 30), .ref (ad 2)] K (fun (ans : Int32) (K' : KT) => K = K' ∧ ans = (vd_b (vd_ash K 2))) := by
  refine vd_entZ (by decide) (Nat.le_of_ble_eq_true rfl) (lv := [(0, .ref (ad 30)), (1, .ref (ad 2))]) rfl ?_
  intro p e s m args below meth cd ls Q CX hl H locs HW RET
  have hx := CX.1
  have hb := CX.2.1
  refine lv_iconst (v := (nI 0)) hx hb d_D_isAsHere_0 (by decide) ?_
  refine lv_istore_n (lv' := [(2, .int (nI 0)), (0, .ref (ad 30)), (1, .ref (ad 2))]) hx hb d_D_isAsHere_1 rfl hl (by decide) rfl (fun ls hl => ?_)
  have loop2 : ∀ (n : Nat) (i : Nat), (∀ f, f < i → K 2 f = vd_cnt K (vd_here K) f) → (i ≤ 16) → (16 < i + n) → ∀ (H : Heap) (locs : List Loc) (ls : Array Slot), vd_WS D ad s K H locs → lv_has ls 3 [(0, .ref (ad 30)), (1, .ref (ad 2)), (2, .int (nI i))] → W p l e (vd_R 2 44) s m args below meth cd H locs 0 0 Q (F0 m 2 ls []) := by
    intro n
    induction n with
    | zero => intro i hi hi4 hm; exfalso; omega
    | succ n ih2 =>
      intro i hi hi4 hm H locs ls HW hl
      refine lv_iload_n hx hb d_D_isAsHere_2 rfl (lv_at hl 2 rfl) ?_
      refine lv_bipush (v := (nI 16)) hx hb d_D_isAsHere_3 (by decide) ?_
      refine vd_icmp_ge (tgt := 34) hx hb d_D_isAsHere_5 (by decide) (by omega) (by omega) (fun c_5 => ?_) (fun c_5 => ?_)
      · refine lv_iconst (v := (nI 1)) hx hb d_D_isAsHere_34 (by decide) ?_
        exact RET true _ _ _ _ _ d_D_isAsHere_35 (by (refine ⟨rfl, ?_⟩; (· rw [show vd_ash K 2 = true from vd_eqn_t (fun q hq => hi q (by omega))]))) HW
      · refine lv_aload_n hx hb d_D_isAsHere_8 rfl (lv_at hl 1 rfl) ?_
        refine lv_iload_n hx hb d_D_isAsHere_9 rfl (lv_at hl 2 rfl) ?_
        refine vd_iald CX HW (j := 2) (i := i) rfl (show i < 16 by omega) d_D_isAsHere_10 (fun b1 => ?_)
        have b1 : K 2 i ≤ 9999 := b1
        refine lv_aload_n hx hb d_D_isAsHere_11 rfl (lv_at hl 0 rfl) ?_
        refine vg_30_store CX HW lk_D_10 d_D_isAsHere_12 ?_
        refine lv_aload_n hx hb d_D_isAsHere_15 rfl (lv_at hl 0 rfl) ?_
        refine vd_callVi (As := []) (rest := [.ref (ad 31), .int (nI (K 2 i))]) CX HW (k_here l D ad K) mo_D_here wi_D_here ws_D_here (vr_30 CX HW) ml_D_61 rfl rfl ⟨Nat.le_of_ble_eq_true rfl, Nat.le_of_ble_eq_true rfl⟩ hl.1 (Nat.le_of_ble_eq_true rfl) d_D_isAsHere_16 ⟨Nat.zero_le _, Nat.zero_le _⟩ (fun r2 K3 H locs q4 HW => ?_)
        obtain ⟨rfl, rfl, b5⟩ := q4
        have b5 : vd_here K ≤ 30 := b5
        refine lv_iload_n hx hb d_D_isAsHere_19 rfl (lv_at hl 2 rfl) ?_
        refine vd_callVi (As := [.int (nI (vd_here K)), .int (nI i)]) (rest := [.int (nI (K 2 i))]) CX HW (k_contentOf l D ad K (vd_here K) i (by omega) (by omega)) mo_S_contentOf wi_S_contentOf ws_S_contentOf (vr_31 CX HW) ml_D_108 rfl rfl ⟨Nat.le_of_ble_eq_true rfl, Nat.le_of_ble_eq_true rfl⟩ hl.1 (Nat.le_of_ble_eq_true rfl) d_D_isAsHere_20 ⟨Nat.zero_le _, Nat.zero_le _⟩ (fun r6 K7 H locs q8 HW => ?_)
        obtain ⟨rfl, rfl, b9⟩ := q8
        have b9 : vd_cnt K (vd_here K) i ≤ 9999 := b9
        refine vd_icmp_eq (tgt := 28) hx hb d_D_isAsHere_23 (by decide) (by omega) (by omega) (fun c_23 => ?_) (fun c_23 => ?_)
        · refine lv_iinc (v := (nI (i + 1))) (lv' := [(2, .int (nI (i + 1))), (0, .ref (ad 30)), (1, .ref (ad 2))]) hx hb d_D_isAsHere_28 hl (k := 2) rfl (vd_inc _ 1) (by decide) rfl (fun ls hl => ?_)
          refine lv_goto (tgt := 2) hx hb d_D_isAsHere_31 (by decide) ?_
          exact ih2 (i + 1) (by intro q hq; by_cases e1 : q = i; (· subst e1; exact c_23); (· exact hi q (by omega))) (by omega) (by omega) H locs ls HW (lv_sub hl [1, 2, 0] rfl)
        · refine lv_iconst (v := (nI 0)) hx hb d_D_isAsHere_26 (by decide) ?_
          exact RET false _ _ _ _ _ d_D_isAsHere_27 (by (refine ⟨rfl, ?_⟩; (· rw [show vd_ash K 2 = false from vd_eqn_f (fun h => c_23 (h i (by omega)))]))) HW
  exact loop2 17 0 (by intro q hq; omega) (by omega) (by omega) H locs ls HW (lv_sub hl [1, 2, 0] rfl)
set_option maxHeartbeats 1000000 in
set_option maxRecDepth 100000 in
theorem k_tidy (l : Launch) (D : va_G) (ad : Nat → Nat) (K : KT)   : vd_MI l y_D_isTidy c_D_isTidy 1 (some .boolean) 3 66 D ad [.ref (ad 30)] K (fun (ans : Int32) (K' : KT) => K = K' ∧ ans = (vd_b (vd_tidy K))) := by
  refine vd_entZ (by decide) (Nat.le_of_ble_eq_true rfl) (lv := [(0, .ref (ad 30))]) rfl ?_
  intro p e s m args below meth cd ls Q CX hl H locs HW RET
  have hx := CX.1
  have hb := CX.2.1
  refine lv_aload_n hx hb d_D_isTidy_0 rfl (lv_at hl 0 rfl) ?_
  refine vd_callVi (As := []) (rest := []) CX HW (k_unstaged l D ad K) mo_D_unstaged wi_D_unstaged ws_D_unstaged (vr_30 CX HW) ml_D_136 rfl rfl ⟨Nat.le_of_ble_eq_true rfl, Nat.le_of_ble_eq_true rfl⟩ hl.1 (Nat.le_of_ble_eq_true rfl) d_D_isTidy_1 ⟨Nat.zero_le _, Nat.zero_le _⟩ (fun r1 K2 H locs q3 HW => ?_)
  obtain ⟨rfl, rfl, b4⟩ := q3
  have b4 : vd_un K ≤ 16 := b4
  refine vd_if_ne (tgt := 22) hx hb d_D_isTidy_4 (by decide) (by omega) (fun c_4 => ?_) (fun c_4 => ?_)
  · refine lv_iconst (v := (nI 0)) hx hb d_D_isTidy_22 (by decide) ?_
    exact RET false _ _ _ _ _ d_D_isTidy_23 (by first | (refine ⟨rfl, ?_⟩; unfold vd_tidy; rw [c_4, c_15]; rfl) | (refine ⟨rfl, ?_⟩; unfold vd_tidy; rw [beq_false_of_ne c_4]; rfl)) HW
  · refine lv_aload_n hx hb d_D_isTidy_7 rfl (lv_at hl 0 rfl) ?_
    refine lv_aload_n hx hb d_D_isTidy_8 rfl (lv_at hl 0 rfl) ?_
    refine vg_30_index CX HW lk_D_20 d_D_isTidy_9 ?_
    refine vd_callVi (As := [.ref (ad 1)]) (rest := []) CX HW (k_ash_1 l D ad K) mo_D_isAsHere wi_D_isAsHere ws_D_isAsHere (vr_30 CX HW) ml_D_50 rfl rfl ⟨Nat.le_of_ble_eq_true rfl, Nat.le_of_ble_eq_true rfl⟩ hl.1 (Nat.le_of_ble_eq_true rfl) d_D_isTidy_12 ⟨Nat.zero_le _, Nat.zero_le _⟩ (fun r5 K6 H locs q7 HW => ?_)
    obtain ⟨rfl, rfl⟩ := q7
    refine vd_ifb_eq (tgt := 22) hx hb d_D_isTidy_15 (by decide) (fun c_15 => ?_) (fun c_15 => ?_)
    · refine lv_iconst (v := (nI 0)) hx hb d_D_isTidy_22 (by decide) ?_
      exact RET false _ _ _ _ _ d_D_isTidy_23 (by first | (refine ⟨rfl, ?_⟩; unfold vd_tidy; rw [c_4, c_15]; rfl) | (refine ⟨rfl, ?_⟩; unfold vd_tidy; rw [beq_false_of_ne c_4]; rfl)) HW
    · refine lv_iconst (v := (nI 1)) hx hb d_D_isTidy_18 (by decide) ?_
      refine lv_goto (tgt := 23) hx hb d_D_isTidy_19 (by decide) ?_
      exact RET true _ _ _ _ _ d_D_isTidy_23 (by first | (refine ⟨rfl, ?_⟩; unfold vd_tidy; rw [c_4, c_15]; rfl) | (refine ⟨rfl, ?_⟩; unfold vd_tidy; rw [beq_false_of_ne c_4]; rfl)) HW
set_option maxHeartbeats 1000000 in
set_option maxRecDepth 100000 in
theorem k_move (l : Launch) (D : va_G) (ad : Nat → Nat) (K : KT) (cc0 : Nat) (hc : cc0 ≤ 30) : vd_MI l y_D_moveTo c_D_moveTo 3 (some .int) 2 44 D ad [.ref (ad 30), .int (nI cc0)] K (fun (ans : Int32) (K' : KT) => K' = vd_mv K cc0 ∧ ans = (nI cc0)) := by
  refine vd_entI (by decide) (Nat.le_of_ble_eq_true rfl) (lv := [(0, .ref (ad 30)), (1, .int (nI cc0))]) rfl ?_
  intro p e s m args below meth cd ls Q CX hl H locs HW RET
  have hx := CX.1
  have hb := CX.2.1
  refine lv_aload_n hx hb d_D_moveTo_0 rfl (lv_at hl 0 rfl) ?_
  refine vg_30_tips CX HW lk_D_26 d_D_moveTo_1 ?_
  refine lv_aload_n hx hb d_D_moveTo_4 rfl (lv_at hl 0 rfl) ?_
  refine vg_30_head CX HW lk_D_58 d_D_moveTo_5 (fun b1 => ?_)
  have b1 : K 40 0 ≤ 5 := b1
  refine lv_iload_n hx hb d_D_moveTo_8 rfl (lv_at hl 1 rfl) ?_
  refine vd_iast CX HW (j := 3) (i := (K 40 0)) (x := cc0) rfl (show K 40 0 < 6 by omega) (show cc0 ≤ 30 by omega) d_D_moveTo_9 (fun K2 H locs eK2 HW => ?_)
  refine lv_iconst (v := (nI 0)) hx hb d_D_moveTo_10 (by decide) ?_
  refine lv_istore_n (lv' := [(2, .int (nI 0)), (0, .ref (ad 30)), (1, .int (nI cc0))]) hx hb d_D_moveTo_11 rfl hl (by decide) rfl (fun ls hl => ?_)
  have loop12 : ∀ (n : Nat) (i : Nat) (Kl : KT), (i ≤ 16) → (Kl = vd_f2 (vd_st K 3 (K 40 0) cc0) (fun f => vd_cnt K cc0 f) i) → (16 < i + n) → ∀ (H : Heap) (locs : List Loc) (ls : Array Slot), vd_WS D ad s Kl H locs → lv_has ls 3 [(0, .ref (ad 30)), (1, .int (nI cc0)), (2, .int (nI i))] → W p l e (vd_R 2 44) s m args below meth cd H locs 0 0 Q (F0 m 12 ls []) := by
    intro n
    induction n with
    | zero => intro i Kl hi hk hm; exfalso; omega
    | succ n ih12 =>
      intro i Kl hi hk hm H locs ls HW hl
      have hct : ∀ c f, vd_cnt Kl c f = vd_cnt K c f := fun c f => vd_cnt_of (by rw [hk]; rfl) (by rw [hk]; rfl) (by rw [hk]; rfl) c f
      refine lv_iload_n hx hb d_D_moveTo_12 rfl (lv_at hl 2 rfl) ?_
      refine lv_bipush (v := (nI 16)) hx hb d_D_moveTo_13 (by decide) ?_
      refine vd_icmp_ge (tgt := 51) hx hb d_D_moveTo_15 (by decide) (by omega) (by omega) (fun c_15 => ?_) (fun c_15 => ?_)
      · refine lv_iload_n hx hb d_D_moveTo_51 rfl (lv_at hl 1 rfl) ?_
        exact RET _ _ _ _ _ _ d_D_moveTo_52 (by rw [hk, show i = 16 by omega]; exact ⟨rfl, rfl⟩) HW
      · refine lv_aload_n hx hb d_D_moveTo_18 rfl (lv_at hl 0 rfl) ?_
        refine vg_30_index CX HW lk_D_20 d_D_moveTo_19 ?_
        refine lv_iload_n hx hb d_D_moveTo_22 rfl (lv_at hl 2 rfl) ?_
        refine lv_aload_n hx hb d_D_moveTo_23 rfl (lv_at hl 0 rfl) ?_
        refine vg_30_store CX HW lk_D_10 d_D_moveTo_24 ?_
        refine lv_iload_n hx hb d_D_moveTo_27 rfl (lv_at hl 1 rfl) ?_
        refine lv_iload_n hx hb d_D_moveTo_28 rfl (lv_at hl 2 rfl) ?_
        refine vd_callVi (As := [.int (nI cc0), .int (nI i)]) (rest := [.int (nI i), .ref (ad 1)]) CX HW (k_contentOf l D ad Kl cc0 i (by omega) (by omega)) mo_S_contentOf wi_S_contentOf ws_S_contentOf (vr_31 CX HW) ml_D_108 rfl rfl ⟨Nat.le_of_ble_eq_true rfl, Nat.le_of_ble_eq_true rfl⟩ hl.1 (Nat.le_of_ble_eq_true rfl) d_D_moveTo_29 ⟨Nat.zero_le _, Nat.zero_le _⟩ (fun r3 K4 H locs q5 HW => ?_)
        obtain ⟨rfl, rfl, b6⟩ := q5
        have b6 : vd_cnt Kl cc0 i ≤ 9999 := b6
        refine vd_iast CX HW (j := 1) (i := i) (x := (vd_cnt Kl cc0 i)) rfl (show i < 16 by omega) (show vd_cnt Kl cc0 i ≤ 9999 by omega) d_D_moveTo_32 (fun K7 H locs eK7 HW => ?_)
        refine lv_aload_n hx hb d_D_moveTo_33 rfl (lv_at hl 0 rfl) ?_
        refine vg_30_work CX HW lk_D_16 d_D_moveTo_34 ?_
        refine lv_iload_n hx hb d_D_moveTo_37 rfl (lv_at hl 2 rfl) ?_
        refine lv_aload_n hx hb d_D_moveTo_38 rfl (lv_at hl 0 rfl) ?_
        refine vg_30_index CX HW lk_D_20 d_D_moveTo_39 ?_
        refine lv_iload_n hx hb d_D_moveTo_42 rfl (lv_at hl 2 rfl) ?_
        refine vd_iald CX HW (j := 1) (i := i) rfl (show i < 16 by omega) d_D_moveTo_43 (fun b8 => ?_)
        have b8 : K7 1 i ≤ 9999 := b8
        refine vd_iast CX HW (j := 0) (i := i) (x := (K7 1 i)) rfl (show i < 16 by omega) (show K7 1 i ≤ 9999 by omega) d_D_moveTo_44 (fun K9 H locs eK9 HW => ?_)
        refine lv_iinc (v := (nI (i + 1))) (lv' := [(2, .int (nI (i + 1))), (0, .ref (ad 30)), (1, .int (nI cc0))]) hx hb d_D_moveTo_45 hl (k := 2) rfl (vd_inc _ 1) (by decide) rfl (fun ls hl => ?_)
        refine lv_goto (tgt := 12) hx hb d_D_moveTo_48 (by decide) ?_
        exact ih12 (i + 1) K9 (by omega) (by exact vd_f2_s hk eK7 eK9 (hct _ _) (by rw [eK7, vd_st_s]; exact (if_pos rfl).trans (hct _ _))) (by omega) H locs ls HW (lv_sub hl [1, 2, 0] rfl)
  exact loop12 17 0 K2 (by omega) (by rw [vd_f2_0]; exact eK2) (by omega) H locs ls HW (lv_sub hl [1, 2, 0] rfl)
set_option maxHeartbeats 1000000 in
set_option maxRecDepth 100000 in
theorem k_mix (l : Launch) (D : va_G) (ad : Nat → Nat) (K : KT) (o : Nat) (b : Nat) (ho : o ≤ 30) (hb2 : b ≤ 30) : vd_MI l y_D_mixHereWith c_D_mixHereWith 8 (some .int) 2 44 D ad [.ref (ad 30), .int (nI o), .int (nI b)] K (fun (ans : Int32) (K' : KT) => K' = vd_mix K o b ∧ ans = (nI (vd_mk (fun zz => vd_clash K o b zz) 16)) ∧ vd_mk (fun zz => vd_clash K o b zz) 16 ≤ 65535) := by
  refine vd_entI (by decide) (Nat.le_of_ble_eq_true rfl) (lv := [(0, .ref (ad 30)), (1, .int (nI o)), (2, .int (nI b))]) rfl ?_
  intro p e s m args below meth cd ls Q CX hl H locs HW RET
  have hx := CX.1
  have hb := CX.2.1
  refine lv_iconst (v := (nI 0)) hx hb d_D_mixHereWith_0 (by decide) ?_
  refine lv_istore_n (lv' := [(3, .int (nI 0)), (0, .ref (ad 30)), (1, .int (nI o)), (2, .int (nI b))]) hx hb d_D_mixHereWith_1 rfl hl (by decide) rfl (fun ls hl => ?_)
  refine lv_iconst (v := (nI 0)) hx hb d_D_mixHereWith_2 (by decide) ?_
  refine lv_istore (lv' := [(4, .int (nI 0)), (3, .int (nI 0)), (0, .ref (ad 30)), (1, .int (nI o)), (2, .int (nI b))]) hx hb d_D_mixHereWith_3 hl (by decide) rfl (fun ls hl => ?_)
  have loop5 : ∀ (n : Nat) (a : Nat) (i : Nat) (Kl : KT), (i ≤ 16) → (Kl = vd_fl K 2 0 i (fun f => vd_mixv K o b f)) → (a = vd_mk (fun zz => vd_clash K o b zz) i) → (16 < i + n) → ∀ (H : Heap) (locs : List Loc) (ls : Array Slot), vd_WS D ad s Kl H locs → lv_has ls 8 [(0, .ref (ad 30)), (1, .int (nI o)), (2, .int (nI b)), (3, .int (nI a)), (4, .int (nI i))] → W p l e (vd_R 2 44) s m args below meth cd H locs 0 0 Q (F0 m 5 ls []) := by
    intro n
    induction n with
    | zero => intro a i Kl hi hk ha hm; exfalso; omega
    | succ n ih5 =>
      intro a i Kl hi hk ha hm H locs ls HW hl
      have hct : ∀ c f, vd_cnt Kl c f = vd_cnt K c f := fun c f => vd_cnt_of (by rw [hk]; rfl) (by rw [hk]; rfl) (by rw [hk]; rfl) c f
      have hh : vd_here Kl = vd_here K := by rw [hk]; rfl
      refine lv_iload hx hb d_D_mixHereWith_5 (lv_at hl 4 rfl) ?_
      refine lv_bipush (v := (nI 16)) hx hb d_D_mixHereWith_7 (by decide) ?_
      refine vd_icmp_ge (tgt := 106) hx hb d_D_mixHereWith_9 (by decide) (by omega) (by omega) (fun c_9 => ?_) (fun c_9 => ?_)
      · refine lv_iload_n hx hb d_D_mixHereWith_106 rfl (lv_at hl 3 rfl) ?_
        exact RET _ _ _ _ _ _ d_D_mixHereWith_107 (by have e1 : i = 16 := (by omega); subst e1; (refine ⟨hk, ?_, Nat.le_of_lt_succ (vd_mk_lt _ 16)⟩; (· rw [ha]))) HW
      · refine lv_aload_n hx hb d_D_mixHereWith_12 rfl (lv_at hl 0 rfl) ?_
        refine vg_30_store CX HW lk_D_10 d_D_mixHereWith_13 ?_
        refine lv_aload_n hx hb d_D_mixHereWith_16 rfl (lv_at hl 0 rfl) ?_
        refine vd_callVi (As := []) (rest := [.ref (ad 31)]) CX HW (k_here l D ad Kl) mo_D_here wi_D_here ws_D_here (vr_30 CX HW) ml_D_61 rfl rfl ⟨Nat.le_of_ble_eq_true rfl, Nat.le_of_ble_eq_true rfl⟩ hl.1 (Nat.le_of_ble_eq_true rfl) d_D_mixHereWith_17 ⟨Nat.zero_le _, Nat.zero_le _⟩ (fun r1 K2 H locs q3 HW => ?_)
        obtain ⟨rfl, rfl, b4⟩ := q3
        have b4 : vd_here Kl ≤ 30 := b4
        refine lv_iload hx hb d_D_mixHereWith_20 (lv_at hl 4 rfl) ?_
        refine vd_callVi (As := [.int (nI (vd_here Kl)), .int (nI i)]) (rest := []) CX HW (k_contentOf l D ad Kl (vd_here Kl) i (by omega) (by omega)) mo_S_contentOf wi_S_contentOf ws_S_contentOf (vr_31 CX HW) ml_D_108 rfl rfl ⟨Nat.le_of_ble_eq_true rfl, Nat.le_of_ble_eq_true rfl⟩ hl.1 (Nat.le_of_ble_eq_true rfl) d_D_mixHereWith_22 ⟨Nat.zero_le _, Nat.zero_le _⟩ (fun r5 K6 H locs q7 HW => ?_)
        obtain ⟨rfl, rfl, b8⟩ := q7
        have b8 : vd_cnt Kl (vd_here Kl) i ≤ 9999 := b8
        refine lv_istore (lv' := [(5, .int (nI (vd_cnt Kl (vd_here Kl) i))), (0, .ref (ad 30)), (1, .int (nI o)), (2, .int (nI b)), (3, .int (nI a)), (4, .int (nI i))]) hx hb d_D_mixHereWith_25 hl (by decide) rfl (fun ls hl => ?_)
        refine lv_aload_n hx hb d_D_mixHereWith_27 rfl (lv_at hl 1 rfl) ?_
        refine vg_30_store CX HW lk_D_10 d_D_mixHereWith_28 ?_
        refine lv_iload_n hx hb d_D_mixHereWith_31 rfl (lv_at hl 2 rfl) ?_
        refine lv_iload hx hb d_D_mixHereWith_32 (lv_at hl 5 rfl) ?_
        refine vd_callVi (As := [.int (nI o), .int (nI i)]) (rest := []) CX HW (k_contentOf l D ad Kl o i (by omega) (by omega)) mo_S_contentOf wi_S_contentOf ws_S_contentOf (vr_31 CX HW) ml_D_108 rfl rfl ⟨Nat.le_of_ble_eq_true rfl, Nat.le_of_ble_eq_true rfl⟩ hl.1 (Nat.le_of_ble_eq_true rfl) d_D_mixHereWith_34 ⟨Nat.zero_le _, Nat.zero_le _⟩ (fun r9 K10 H locs q11 HW => ?_)
        obtain ⟨rfl, rfl, b12⟩ := q11
        have b12 : vd_cnt Kl o i ≤ 9999 := b12
        refine lv_istore (lv' := [(6, .int (nI (vd_cnt Kl o i))), (5, .int (nI (vd_cnt Kl (vd_here Kl) i))), (0, .ref (ad 30)), (1, .int (nI o)), (2, .int (nI b)), (3, .int (nI a)), (4, .int (nI i))]) hx hb d_D_mixHereWith_37 hl (by decide) rfl (fun ls hl => ?_)
        refine lv_aload_n hx hb d_D_mixHereWith_39 rfl (lv_at hl 2 rfl) ?_
        refine vg_30_store CX HW lk_D_10 d_D_mixHereWith_40 ?_
        refine lv_iload_n hx hb d_D_mixHereWith_43 rfl (lv_at hl 4 rfl) ?_
        refine lv_iload hx hb d_D_mixHereWith_44 (lv_at hl 6 rfl) ?_
        refine vd_callVi (As := [.int (nI b), .int (nI i)]) (rest := []) CX HW (k_contentOf l D ad Kl b i (by omega) (by omega)) mo_S_contentOf wi_S_contentOf ws_S_contentOf (vr_31 CX HW) ml_D_108 rfl rfl ⟨Nat.le_of_ble_eq_true rfl, Nat.le_of_ble_eq_true rfl⟩ hl.1 (Nat.le_of_ble_eq_true rfl) d_D_mixHereWith_46 ⟨Nat.zero_le _, Nat.zero_le _⟩ (fun r13 K14 H locs q15 HW => ?_)
        obtain ⟨rfl, rfl, b16⟩ := q15
        have b16 : vd_cnt Kl b i ≤ 9999 := b16
        refine lv_istore (lv' := [(7, .int (nI (vd_cnt Kl b i))), (6, .int (nI (vd_cnt Kl o i))), (5, .int (nI (vd_cnt Kl (vd_here Kl) i))), (0, .ref (ad 30)), (1, .int (nI o)), (2, .int (nI b)), (3, .int (nI a)), (4, .int (nI i))]) hx hb d_D_mixHereWith_49 hl (by decide) rfl (fun ls hl => ?_)
        refine lv_aload_n hx hb d_D_mixHereWith_51 rfl (lv_at hl 3 rfl) ?_
        refine vg_30_mixture CX HW lk_D_23 d_D_mixHereWith_52 ?_
        refine lv_iload hx hb d_D_mixHereWith_55 (lv_at hl 7 rfl) ?_
        refine lv_iload hx hb d_D_mixHereWith_57 (lv_at hl 2 rfl) ?_
        refine lv_iload hx hb d_D_mixHereWith_59 (lv_at hl 0 rfl) ?_
        refine vd_icmp_ne (tgt := 69) hx hb d_D_mixHereWith_61 (by decide) (by omega) (by omega) (fun c_61 => ?_) (fun c_61 => ?_)
        · refine lv_iload hx hb d_D_mixHereWith_69 (lv_at hl 2 rfl) ?_
          refine vd_iast CX HW (j := 2) (i := i) (x := (vd_cnt Kl (vd_here Kl) i)) rfl (show i < 16 by omega) (show vd_cnt Kl (vd_here Kl) i ≤ 9999 by omega) d_D_mixHereWith_71 (fun K17 H locs eK17 HW => ?_)
          refine lv_iload hx hb d_D_mixHereWith_72 (lv_at hl 2 rfl) ?_
          refine lv_iload hx hb d_D_mixHereWith_74 (lv_at hl 1 rfl) ?_
          refine vd_icmp_eq (tgt := 100) hx hb d_D_mixHereWith_76 (by decide) (by omega) (by omega) (fun c_76 => ?_) (fun c_76 => ?_)
          · refine lv_iinc (v := (nI (i + 1))) (lv' := [(4, .int (nI (i + 1))), (7, .int (nI (vd_cnt Kl b i))), (6, .int (nI (vd_cnt Kl o i))), (5, .int (nI (vd_cnt Kl (vd_here Kl) i))), (0, .ref (ad 30)), (1, .int (nI o)), (2, .int (nI b)), (3, .int (nI a))]) hx hb d_D_mixHereWith_100 hl (k := 7) rfl (vd_inc _ 1) (by decide) rfl (fun ls hl => ?_)
            refine lv_goto (tgt := 5) hx hb d_D_mixHereWith_103 (by decide) ?_
            exact ih5 a (i + 1) K17 (by omega) (by exact vd_fl_step hk eK17 (by omega) (by simp only [vd_mixv, ← hct, ← hh]; first | rw [if_pos c_61] | rw [if_neg c_61])) (by first | (refine vd_mk_t ha ?_; show vd_clash K o b i = true; unfold vd_clash; simp only [← hct, ← hh]; simp [c_76, c_83, c_90]) | (refine vd_mk_f ha ?_; show vd_clash K o b i = false; unfold vd_clash; simp only [← hct, ← hh]; simp [c_90]) | (refine vd_mk_f ha ?_; show vd_clash K o b i = false; unfold vd_clash; simp only [← hct, ← hh]; simp [c_83]) | (refine vd_mk_f ha ?_; show vd_clash K o b i = false; unfold vd_clash; simp only [← hct, ← hh]; simp [c_76])) (by omega) H locs ls HW (lv_sub hl [4, 5, 6, 7, 0] rfl)
          · refine lv_iload hx hb d_D_mixHereWith_79 (lv_at hl 2 rfl) ?_
            refine lv_iload hx hb d_D_mixHereWith_81 (lv_at hl 0 rfl) ?_
            refine vd_icmp_eq (tgt := 100) hx hb d_D_mixHereWith_83 (by decide) (by omega) (by omega) (fun c_83 => ?_) (fun c_83 => ?_)
            · refine lv_iinc (v := (nI (i + 1))) (lv' := [(4, .int (nI (i + 1))), (7, .int (nI (vd_cnt Kl b i))), (6, .int (nI (vd_cnt Kl o i))), (5, .int (nI (vd_cnt Kl (vd_here Kl) i))), (0, .ref (ad 30)), (1, .int (nI o)), (2, .int (nI b)), (3, .int (nI a))]) hx hb d_D_mixHereWith_100 hl (k := 7) rfl (vd_inc _ 1) (by decide) rfl (fun ls hl => ?_)
              refine lv_goto (tgt := 5) hx hb d_D_mixHereWith_103 (by decide) ?_
              exact ih5 a (i + 1) K17 (by omega) (by exact vd_fl_step hk eK17 (by omega) (by simp only [vd_mixv, ← hct, ← hh]; first | rw [if_pos c_61] | rw [if_neg c_61])) (by first | (refine vd_mk_t ha ?_; show vd_clash K o b i = true; unfold vd_clash; simp only [← hct, ← hh]; simp [c_76, c_83, c_90]) | (refine vd_mk_f ha ?_; show vd_clash K o b i = false; unfold vd_clash; simp only [← hct, ← hh]; simp [c_90]) | (refine vd_mk_f ha ?_; show vd_clash K o b i = false; unfold vd_clash; simp only [← hct, ← hh]; simp [c_83]) | (refine vd_mk_f ha ?_; show vd_clash K o b i = false; unfold vd_clash; simp only [← hct, ← hh]; simp [c_76])) (by omega) H locs ls HW (lv_sub hl [4, 5, 6, 7, 0] rfl)
            · refine lv_iload hx hb d_D_mixHereWith_86 (lv_at hl 1 rfl) ?_
              refine lv_iload hx hb d_D_mixHereWith_88 (lv_at hl 0 rfl) ?_
              refine vd_icmp_eq (tgt := 100) hx hb d_D_mixHereWith_90 (by decide) (by omega) (by omega) (fun c_90 => ?_) (fun c_90 => ?_)
              · refine lv_iinc (v := (nI (i + 1))) (lv' := [(4, .int (nI (i + 1))), (7, .int (nI (vd_cnt Kl b i))), (6, .int (nI (vd_cnt Kl o i))), (5, .int (nI (vd_cnt Kl (vd_here Kl) i))), (0, .ref (ad 30)), (1, .int (nI o)), (2, .int (nI b)), (3, .int (nI a))]) hx hb d_D_mixHereWith_100 hl (k := 7) rfl (vd_inc _ 1) (by decide) rfl (fun ls hl => ?_)
                refine lv_goto (tgt := 5) hx hb d_D_mixHereWith_103 (by decide) ?_
                exact ih5 a (i + 1) K17 (by omega) (by exact vd_fl_step hk eK17 (by omega) (by simp only [vd_mixv, ← hct, ← hh]; first | rw [if_pos c_61] | rw [if_neg c_61])) (by first | (refine vd_mk_t ha ?_; show vd_clash K o b i = true; unfold vd_clash; simp only [← hct, ← hh]; simp [c_76, c_83, c_90]) | (refine vd_mk_f ha ?_; show vd_clash K o b i = false; unfold vd_clash; simp only [← hct, ← hh]; simp [c_90]) | (refine vd_mk_f ha ?_; show vd_clash K o b i = false; unfold vd_clash; simp only [← hct, ← hh]; simp [c_83]) | (refine vd_mk_f ha ?_; show vd_clash K o b i = false; unfold vd_clash; simp only [← hct, ← hh]; simp [c_76])) (by omega) H locs ls HW (lv_sub hl [4, 5, 6, 7, 0] rfl)
              · refine lv_iload_n hx hb d_D_mixHereWith_93 rfl (lv_at hl 6 rfl) ?_
                refine lv_iconst (v := (nI 1)) hx hb d_D_mixHereWith_94 (by decide) ?_
                refine lv_iload hx hb d_D_mixHereWith_95 (lv_at hl 7 rfl) ?_
                refine vd_shl1 hx hb (by omega) d_D_mixHereWith_97 ?_
                refine vd_ior hx hb d_D_mixHereWith_98 ?_
                refine lv_istore_n (lv' := [(3, .int (nI (a ||| (2 ^ i)))), (7, .int (nI (vd_cnt Kl b i))), (6, .int (nI (vd_cnt Kl o i))), (5, .int (nI (vd_cnt Kl (vd_here Kl) i))), (0, .ref (ad 30)), (1, .int (nI o)), (2, .int (nI b)), (4, .int (nI i))]) hx hb d_D_mixHereWith_99 rfl hl (by decide) rfl (fun ls hl => ?_)
                refine lv_iinc (v := (nI (i + 1))) (lv' := [(4, .int (nI (i + 1))), (3, .int (nI (a ||| (2 ^ i)))), (7, .int (nI (vd_cnt Kl b i))), (6, .int (nI (vd_cnt Kl o i))), (5, .int (nI (vd_cnt Kl (vd_here Kl) i))), (0, .ref (ad 30)), (1, .int (nI o)), (2, .int (nI b))]) hx hb d_D_mixHereWith_100 hl (k := 7) rfl (vd_inc _ 1) (by decide) rfl (fun ls hl => ?_)
                refine lv_goto (tgt := 5) hx hb d_D_mixHereWith_103 (by decide) ?_
                exact ih5 (a ||| (2 ^ i)) (i + 1) K17 (by omega) (by exact vd_fl_step hk eK17 (by omega) (by simp only [vd_mixv, ← hct, ← hh]; first | rw [if_pos c_61] | rw [if_neg c_61])) (by first | (refine vd_mk_t ha ?_; show vd_clash K o b i = true; unfold vd_clash; simp only [← hct, ← hh]; simp [c_76, c_83, c_90]) | (refine vd_mk_f ha ?_; show vd_clash K o b i = false; unfold vd_clash; simp only [← hct, ← hh]; simp [c_90]) | (refine vd_mk_f ha ?_; show vd_clash K o b i = false; unfold vd_clash; simp only [← hct, ← hh]; simp [c_83]) | (refine vd_mk_f ha ?_; show vd_clash K o b i = false; unfold vd_clash; simp only [← hct, ← hh]; simp [c_76])) (by omega) H locs ls HW (lv_sub hl [5, 6, 7, 1, 0] rfl)
        · refine lv_iload hx hb d_D_mixHereWith_64 (lv_at hl 1 rfl) ?_
          refine lv_goto (tgt := 71) hx hb d_D_mixHereWith_66 (by decide) ?_
          refine vd_iast CX HW (j := 2) (i := i) (x := (vd_cnt Kl o i)) rfl (show i < 16 by omega) (show vd_cnt Kl o i ≤ 9999 by omega) d_D_mixHereWith_71 (fun K18 H locs eK18 HW => ?_)
          refine lv_iload hx hb d_D_mixHereWith_72 (lv_at hl 2 rfl) ?_
          refine lv_iload hx hb d_D_mixHereWith_74 (lv_at hl 1 rfl) ?_
          refine vd_icmp_eq (tgt := 100) hx hb d_D_mixHereWith_76 (by decide) (by omega) (by omega) (fun c_76 => ?_) (fun c_76 => ?_)
          · refine lv_iinc (v := (nI (i + 1))) (lv' := [(4, .int (nI (i + 1))), (7, .int (nI (vd_cnt Kl b i))), (6, .int (nI (vd_cnt Kl o i))), (5, .int (nI (vd_cnt Kl (vd_here Kl) i))), (0, .ref (ad 30)), (1, .int (nI o)), (2, .int (nI b)), (3, .int (nI a))]) hx hb d_D_mixHereWith_100 hl (k := 7) rfl (vd_inc _ 1) (by decide) rfl (fun ls hl => ?_)
            refine lv_goto (tgt := 5) hx hb d_D_mixHereWith_103 (by decide) ?_
            exact ih5 a (i + 1) K18 (by omega) (by exact vd_fl_step hk eK18 (by omega) (by simp only [vd_mixv, ← hct, ← hh]; first | rw [if_pos c_61] | rw [if_neg c_61])) (by first | (refine vd_mk_t ha ?_; show vd_clash K o b i = true; unfold vd_clash; simp only [← hct, ← hh]; simp [c_76, c_83, c_90]) | (refine vd_mk_f ha ?_; show vd_clash K o b i = false; unfold vd_clash; simp only [← hct, ← hh]; simp [c_90]) | (refine vd_mk_f ha ?_; show vd_clash K o b i = false; unfold vd_clash; simp only [← hct, ← hh]; simp [c_83]) | (refine vd_mk_f ha ?_; show vd_clash K o b i = false; unfold vd_clash; simp only [← hct, ← hh]; simp [c_76])) (by omega) H locs ls HW (lv_sub hl [4, 5, 6, 7, 0] rfl)
          · refine lv_iload hx hb d_D_mixHereWith_79 (lv_at hl 2 rfl) ?_
            refine lv_iload hx hb d_D_mixHereWith_81 (lv_at hl 0 rfl) ?_
            refine vd_icmp_eq (tgt := 100) hx hb d_D_mixHereWith_83 (by decide) (by omega) (by omega) (fun c_83 => ?_) (fun c_83 => ?_)
            · refine lv_iinc (v := (nI (i + 1))) (lv' := [(4, .int (nI (i + 1))), (7, .int (nI (vd_cnt Kl b i))), (6, .int (nI (vd_cnt Kl o i))), (5, .int (nI (vd_cnt Kl (vd_here Kl) i))), (0, .ref (ad 30)), (1, .int (nI o)), (2, .int (nI b)), (3, .int (nI a))]) hx hb d_D_mixHereWith_100 hl (k := 7) rfl (vd_inc _ 1) (by decide) rfl (fun ls hl => ?_)
              refine lv_goto (tgt := 5) hx hb d_D_mixHereWith_103 (by decide) ?_
              exact ih5 a (i + 1) K18 (by omega) (by exact vd_fl_step hk eK18 (by omega) (by simp only [vd_mixv, ← hct, ← hh]; first | rw [if_pos c_61] | rw [if_neg c_61])) (by first | (refine vd_mk_t ha ?_; show vd_clash K o b i = true; unfold vd_clash; simp only [← hct, ← hh]; simp [c_76, c_83, c_90]) | (refine vd_mk_f ha ?_; show vd_clash K o b i = false; unfold vd_clash; simp only [← hct, ← hh]; simp [c_90]) | (refine vd_mk_f ha ?_; show vd_clash K o b i = false; unfold vd_clash; simp only [← hct, ← hh]; simp [c_83]) | (refine vd_mk_f ha ?_; show vd_clash K o b i = false; unfold vd_clash; simp only [← hct, ← hh]; simp [c_76])) (by omega) H locs ls HW (lv_sub hl [4, 5, 6, 7, 0] rfl)
            · refine lv_iload hx hb d_D_mixHereWith_86 (lv_at hl 1 rfl) ?_
              refine lv_iload hx hb d_D_mixHereWith_88 (lv_at hl 0 rfl) ?_
              refine vd_icmp_eq (tgt := 100) hx hb d_D_mixHereWith_90 (by decide) (by omega) (by omega) (fun c_90 => ?_) (fun c_90 => ?_)
              · refine lv_iinc (v := (nI (i + 1))) (lv' := [(4, .int (nI (i + 1))), (7, .int (nI (vd_cnt Kl b i))), (6, .int (nI (vd_cnt Kl o i))), (5, .int (nI (vd_cnt Kl (vd_here Kl) i))), (0, .ref (ad 30)), (1, .int (nI o)), (2, .int (nI b)), (3, .int (nI a))]) hx hb d_D_mixHereWith_100 hl (k := 7) rfl (vd_inc _ 1) (by decide) rfl (fun ls hl => ?_)
                refine lv_goto (tgt := 5) hx hb d_D_mixHereWith_103 (by decide) ?_
                exact ih5 a (i + 1) K18 (by omega) (by exact vd_fl_step hk eK18 (by omega) (by simp only [vd_mixv, ← hct, ← hh]; first | rw [if_pos c_61] | rw [if_neg c_61])) (by first | (refine vd_mk_t ha ?_; show vd_clash K o b i = true; unfold vd_clash; simp only [← hct, ← hh]; simp [c_76, c_83, c_90]) | (refine vd_mk_f ha ?_; show vd_clash K o b i = false; unfold vd_clash; simp only [← hct, ← hh]; simp [c_90]) | (refine vd_mk_f ha ?_; show vd_clash K o b i = false; unfold vd_clash; simp only [← hct, ← hh]; simp [c_83]) | (refine vd_mk_f ha ?_; show vd_clash K o b i = false; unfold vd_clash; simp only [← hct, ← hh]; simp [c_76])) (by omega) H locs ls HW (lv_sub hl [4, 5, 6, 7, 0] rfl)
              · refine lv_iload_n hx hb d_D_mixHereWith_93 rfl (lv_at hl 6 rfl) ?_
                refine lv_iconst (v := (nI 1)) hx hb d_D_mixHereWith_94 (by decide) ?_
                refine lv_iload hx hb d_D_mixHereWith_95 (lv_at hl 7 rfl) ?_
                refine vd_shl1 hx hb (by omega) d_D_mixHereWith_97 ?_
                refine vd_ior hx hb d_D_mixHereWith_98 ?_
                refine lv_istore_n (lv' := [(3, .int (nI (a ||| (2 ^ i)))), (7, .int (nI (vd_cnt Kl b i))), (6, .int (nI (vd_cnt Kl o i))), (5, .int (nI (vd_cnt Kl (vd_here Kl) i))), (0, .ref (ad 30)), (1, .int (nI o)), (2, .int (nI b)), (4, .int (nI i))]) hx hb d_D_mixHereWith_99 rfl hl (by decide) rfl (fun ls hl => ?_)
                refine lv_iinc (v := (nI (i + 1))) (lv' := [(4, .int (nI (i + 1))), (3, .int (nI (a ||| (2 ^ i)))), (7, .int (nI (vd_cnt Kl b i))), (6, .int (nI (vd_cnt Kl o i))), (5, .int (nI (vd_cnt Kl (vd_here Kl) i))), (0, .ref (ad 30)), (1, .int (nI o)), (2, .int (nI b))]) hx hb d_D_mixHereWith_100 hl (k := 7) rfl (vd_inc _ 1) (by decide) rfl (fun ls hl => ?_)
                refine lv_goto (tgt := 5) hx hb d_D_mixHereWith_103 (by decide) ?_
                exact ih5 (a ||| (2 ^ i)) (i + 1) K18 (by omega) (by exact vd_fl_step hk eK18 (by omega) (by simp only [vd_mixv, ← hct, ← hh]; first | rw [if_pos c_61] | rw [if_neg c_61])) (by first | (refine vd_mk_t ha ?_; show vd_clash K o b i = true; unfold vd_clash; simp only [← hct, ← hh]; simp [c_76, c_83, c_90]) | (refine vd_mk_f ha ?_; show vd_clash K o b i = false; unfold vd_clash; simp only [← hct, ← hh]; simp [c_90]) | (refine vd_mk_f ha ?_; show vd_clash K o b i = false; unfold vd_clash; simp only [← hct, ← hh]; simp [c_83]) | (refine vd_mk_f ha ?_; show vd_clash K o b i = false; unfold vd_clash; simp only [← hct, ← hh]; simp [c_76])) (by omega) H locs ls HW (lv_sub hl [5, 6, 7, 1, 0] rfl)
  exact loop5 17 0 0 K (by omega) (by rw [vd_fl_0]) (by rfl) (by omega) H locs ls HW (lv_sub hl [2, 3, 4, 1, 0] rfl)
set_option maxHeartbeats 1000000 in
set_option maxRecDepth 100000 in
theorem k_mapart (l : Launch) (D : va_G) (ad : Nat → Nat) (K : KT) (o : Nat) (ho : o ≤ 30) (h45 : K 45 0 ≤ 4 * K 43 0) (h46 : K 46 0 ≤ K 43 0) : vd_MI l y_D_mergeApart c_D_mergeApart 3 (some .int) 5 122 D ad [.ref (ad 30), .int (nI o)] K (fun (ans : Int32) (K' : KT) => K' = vd_maK K o ∧ ans = (vd_maR K o)) := by
  refine vd_entI (by decide) (Nat.le_of_ble_eq_true rfl) (lv := [(0, .ref (ad 30)), (1, .int (nI o))]) rfl ?_
  intro p e s m args below meth cd ls Q CX hl H locs HW RET
  have hx := CX.1
  have hb := CX.2.1
  refine lv_aload_n hx hb d_D_mergeApart_0 rfl (lv_at hl 0 rfl) ?_
  refine lv_iload_n hx hb d_D_mergeApart_1 rfl (lv_at hl 1 rfl) ?_
  refine lv_aload_n hx hb d_D_mergeApart_2 rfl (lv_at hl 0 rfl) ?_
  refine vg_30_store CX HW lk_D_10 d_D_mergeApart_3 ?_
  refine lv_aload_n hx hb d_D_mergeApart_6 rfl (lv_at hl 0 rfl) ?_
  refine vd_callVi (As := []) (rest := [.ref (ad 31), .int (nI o), .ref (ad 30)]) CX HW (k_here l D ad K) mo_D_here wi_D_here ws_D_here (vr_30 CX HW) ml_D_61 rfl rfl ⟨Nat.le_of_ble_eq_true rfl, Nat.le_of_ble_eq_true rfl⟩ hl.1 (Nat.le_of_ble_eq_true rfl) d_D_mergeApart_7 ⟨Nat.zero_le _, Nat.zero_le _⟩ (fun r1 K2 H locs q3 HW => ?_)
  obtain ⟨rfl, rfl, b4⟩ := q3
  have b4 : vd_here K ≤ 30 := b4
  refine lv_iload_n hx hb d_D_mergeApart_10 rfl (lv_at hl 1 rfl) ?_
  refine vd_callVi (As := [.int (nI (vd_here K)), .int (nI o)]) (rest := [.int (nI o), .ref (ad 30)]) CX HW (k_meet l D ad K (vd_here K) o (by omega) (by omega)) mo_S_meetingOf wi_S_meetingOf ws_S_meetingOf (vr_31 CX HW) ml_D_111 rfl rfl ⟨Nat.le_of_ble_eq_true rfl, Nat.le_of_ble_eq_true rfl⟩ hl.1 (Nat.le_of_ble_eq_true rfl) d_D_mergeApart_11 ⟨Nat.zero_le _, Nat.zero_le _⟩ (fun r5 K6 H locs q7 HW => ?_)
  obtain ⟨rfl, rfl, b8⟩ := q7
  have b8 : vd_top (K 7 (vd_here K) &&& K 7 o) 30 ≤ 30 := b8
  refine vd_callVi (As := [.int (nI o), .int (nI (vd_top (K 7 (vd_here K) &&& K 7 o) 30))]) (rest := []) CX HW (k_mix l D ad K o (vd_top (K 7 (vd_here K) &&& K 7 o) 30) (by omega) (by omega)) mo_D_mixHereWith wi_D_mixHereWith ws_D_mixHereWith (vr_30 CX HW) ml_D_96 rfl rfl ⟨Nat.le_of_ble_eq_true rfl, Nat.le_of_ble_eq_true rfl⟩ hl.1 (Nat.le_of_ble_eq_true rfl) d_D_mergeApart_14 ⟨Nat.zero_le _, Nat.zero_le _⟩ (fun r9 K10 H locs q11 HW => ?_)
  obtain ⟨eK10, rfl, b12⟩ := q11
  have b12 : vd_mk (fun zz => vd_clash K o (vd_top (K 7 (vd_here K) &&& K 7 o) 30) zz) 16 ≤ 65535 := b12
  refine lv_istore_n (lv' := [(2, .int (nI (vd_mk (fun zz => vd_clash K o (vd_top (K 7 (vd_here K) &&& K 7 o) 30) zz) 16))), (0, .ref (ad 30)), (1, .int (nI o))]) hx hb d_D_mergeApart_17 rfl hl (by decide) rfl (fun ls hl => ?_)
  have hmz : K10 = vd_mix K o (vd_base K o) := eK10
  have f43 : K10 43 0 = K 43 0 := by rw [hmz]; rfl
  have f45 : K10 45 0 = K 45 0 := by rw [hmz]; rfl
  have f46 : K10 46 0 = K 46 0 := by rw [hmz]; rfl
  have fh : vd_here K10 = vd_here K := by rw [hmz]; rfl
  refine lv_iload_n hx hb d_D_mergeApart_18 rfl (lv_at hl 0 rfl) ?_
  refine vd_if_ne (tgt := 58) hx hb d_D_mergeApart_19 (by decide) (by omega) (fun c_19 => ?_) (fun c_19 => ?_)
  · refine lv_aload_n hx hb d_D_mergeApart_58 rfl (lv_at hl 1 rfl) ?_
    refine vg_30_mixture CX HW lk_D_23 d_D_mergeApart_59 ?_
    refine lv_iconst (v := (nI 0)) hx hb d_D_mergeApart_62 (by decide) ?_
    refine lv_aload_n hx hb d_D_mergeApart_63 rfl (lv_at hl 1 rfl) ?_
    refine vg_30_index CX HW lk_D_20 d_D_mergeApart_64 ?_
    refine lv_iconst (v := (nI 0)) hx hb d_D_mergeApart_67 (by decide) ?_
    refine lv_bipush (v := (nI 16)) hx hb d_D_mergeApart_68 (by decide) ?_
    refine vd_copy CX HW (j0 := 2) (j1 := 1) (sp := 0) (dp := 0) (n := 16) rfl rfl (show 0 + 16 ≤ 16 by omega) (show 0 + 16 ≤ 16 by omega) (fun b hb0 => HW.2.2.2 2 _ (show _ < 16 by omega)) ml_D_139 hl.1 (Nat.le_of_ble_eq_true rfl) (Nat.le_of_ble_eq_true rfl) d_D_mergeApart_70 (fun K13 H locs eK13 HW => ?_)
    refine lv_aload_n hx hb d_D_mergeApart_73 rfl (lv_at hl 1 rfl) ?_
    refine vg_30_mixture CX HW lk_D_23 d_D_mergeApart_74 ?_
    refine lv_iconst (v := (nI 0)) hx hb d_D_mergeApart_77 (by decide) ?_
    refine lv_aload_n hx hb d_D_mergeApart_78 rfl (lv_at hl 1 rfl) ?_
    refine vg_30_work CX HW lk_D_16 d_D_mergeApart_79 ?_
    refine lv_iconst (v := (nI 0)) hx hb d_D_mergeApart_82 (by decide) ?_
    refine lv_bipush (v := (nI 16)) hx hb d_D_mergeApart_83 (by decide) ?_
    refine vd_copy CX HW (j0 := 2) (j1 := 0) (sp := 0) (dp := 0) (n := 16) rfl rfl (show 0 + 16 ≤ 16 by omega) (show 0 + 16 ≤ 16 by omega) (fun b hb0 => HW.2.2.2 2 _ (show _ < 16 by omega)) ml_D_139 hl.1 (Nat.le_of_ble_eq_true rfl) (Nat.le_of_ble_eq_true rfl) d_D_mergeApart_85 (fun K14 H locs eK14 HW => ?_)
    refine lv_aload_n hx hb d_D_mergeApart_88 rfl (lv_at hl 1 rfl) ?_
    refine lv_iload_n hx hb d_D_mergeApart_89 rfl (lv_at hl 2 rfl) ?_
    refine vt_30_merging CX HW (x := o) (show o ≤ 30 by omega) lk_D_47 d_D_mergeApart_90 (fun K15 H locs eK15 HW => ?_)
    refine lv_aload_n hx hb d_D_mergeApart_93 rfl (lv_at hl 1 rfl) ?_
    refine lv_iload_n hx hb d_D_mergeApart_94 rfl (lv_at hl 0 rfl) ?_
    refine vt_30_clashes CX HW (x := (vd_mk (fun zz => vd_clash K o (vd_top (K 7 (vd_here K) &&& K 7 o) 30) zz) 16)) (show vd_mk (fun zz => vd_clash K o (vd_top (K 7 (vd_here K) &&& K 7 o) 30) zz) 16 ≤ 65535 by omega) lk_D_43 d_D_mergeApart_95 (fun K16 H locs eK16 HW => ?_)
    refine lv_bipush (v := (-5 : Int32)) hx hb d_D_mergeApart_98 (by decide) ?_
    exact RET _ _ _ _ _ _ d_D_mergeApart_100 (by have h90 : ¬ (vd_mask K o (vd_base K o) = 0) := (by exact c_19); unfold vd_maK vd_maR; rw [if_neg h90, if_neg h90]; subst_vars; exact ⟨rfl, rfl⟩) HW
  · refine lv_aload_n hx hb d_D_mergeApart_22 rfl (lv_at hl 1 rfl) ?_
    refine vg_30_store CX HW lk_D_10 d_D_mergeApart_23 ?_
    refine vd_callVi (As := []) (rest := []) CX HW (k_isFull l D ad K10) mo_S_isFull wi_S_isFull ws_S_isFull (vr_31 CX HW) ml_D_54 rfl rfl ⟨Nat.le_of_ble_eq_true rfl, Nat.le_of_ble_eq_true rfl⟩ hl.1 (Nat.le_of_ble_eq_true rfl) d_D_mergeApart_26 ⟨Nat.zero_le _, Nat.zero_le _⟩ (fun r17 K18 H locs q19 HW => ?_)
    obtain ⟨rfl, rfl⟩ := q19
    refine vd_ifb_eq (tgt := 37) hx hb d_D_mergeApart_29 (by decide) (fun c_29 => ?_) (fun c_29 => ?_)
    · have c_m := of_decide_eq_false c_29
      refine lv_aload_n hx hb d_D_mergeApart_37 rfl (lv_at hl 1 rfl) ?_
      refine lv_aload_n hx hb d_D_mergeApart_38 rfl (lv_at hl 1 rfl) ?_
      refine vg_30_store CX HW lk_D_10 d_D_mergeApart_39 ?_
      refine lv_aload_n hx hb d_D_mergeApart_42 rfl (lv_at hl 1 rfl) ?_
      refine vg_30_mixture CX HW lk_D_23 d_D_mergeApart_43 ?_
      refine lv_aload_n hx hb d_D_mergeApart_46 rfl (lv_at hl 1 rfl) ?_
      refine vd_callVi (As := []) (rest := [.ref (ad 2), .ref (ad 31), .ref (ad 30)]) CX HW (k_here l D ad K10) mo_D_here wi_D_here ws_D_here (vr_30 CX HW) ml_D_61 rfl rfl ⟨Nat.le_of_ble_eq_true rfl, Nat.le_of_ble_eq_true rfl⟩ hl.1 (Nat.le_of_ble_eq_true rfl) d_D_mergeApart_47 ⟨Nat.zero_le _, Nat.zero_le _⟩ (fun r20 K21 H locs q22 HW => ?_)
      obtain ⟨rfl, rfl, b23⟩ := q22
      have b23 : vd_here K10 ≤ 30 := b23
      refine lv_iload_n hx hb d_D_mergeApart_50 rfl (lv_at hl 2 rfl) ?_
      refine vd_callVi (As := [.ref (ad 2), .int (nI (vd_here K10)), .int (nI o)]) (rest := [.ref (ad 30)]) CX HW (k_make_2 l D ad K10 (vd_here K10) o (by omega) (by omega) (by omega) (by omega) (by omega)) mo_S_make wi_S_make ws_S_make (vr_31 CX HW) ml_D_65 rfl rfl ⟨Nat.le_of_ble_eq_true rfl, Nat.le_of_ble_eq_true rfl⟩ hl.1 (Nat.le_of_ble_eq_true rfl) d_D_mergeApart_51 ⟨Nat.zero_le _, Nat.zero_le _⟩ (fun r24 K25 H locs q26 HW => ?_)
      obtain ⟨eK25, rfl⟩ := q26
      refine vd_callVi (As := [.int (nI (K10 43 0 + 1))]) (rest := []) CX HW (k_move l D ad K25 (K10 43 0 + 1) (by omega)) mo_D_moveTo wi_D_moveTo ws_D_moveTo (vr_30 CX HW) ml_D_78 rfl rfl ⟨Nat.le_of_ble_eq_true rfl, Nat.le_of_ble_eq_true rfl⟩ hl.1 (Nat.le_of_ble_eq_true rfl) d_D_mergeApart_54 ⟨Nat.zero_le _, Nat.zero_le _⟩ (fun r27 K28 H locs q29 HW => ?_)
      obtain ⟨eK28, rfl⟩ := q29
      exact RET _ _ _ _ _ _ d_D_mergeApart_57 (by have h90 : vd_mask K o (vd_base K o) = 0 := (by exact c_19); have h91 : ¬ (30 ≤ K 43 0) := (by omega); unfold vd_maK vd_maR; rw [if_pos h90, if_pos h90, if_neg h91, if_neg h91]; rw [fh] at eK25; rw [f43] at eK28 ⊢; refine ⟨?_, rfl⟩; rw [eK28, eK25, hmz]) HW
    · refine lv_bipush (v := (-2 : Int32)) hx hb d_D_mergeApart_32 (by decide) ?_
      refine lv_goto (tgt := 57) hx hb d_D_mergeApart_34 (by decide) ?_
      exact RET _ _ _ _ _ _ d_D_mergeApart_57 (by have h90 : vd_mask K o (vd_base K o) = 0 := (by exact c_19); have h91 : 30 ≤ K 43 0 := (by have c_m := of_decide_eq_true c_29; omega); unfold vd_maK vd_maR; rw [if_pos h90, if_pos h90, if_pos h91, if_pos h91]; exact ⟨hmz, rfl⟩) HW
set_option maxHeartbeats 1000000 in
set_option maxRecDepth 100000 in
theorem k_write (l : Launch) (D : va_G) (ad : Nat → Nat) (K : KT) (x : Int32) (y : Int32)  : vd_MI l y_D_write c_D_write 3 (some .int) 1 20 D ad [.ref (ad 30), .int x, .int y] K (fun (ans : Int32) (K' : KT) => K' = (if (vd_in 0 15 x && vd_in 0 9999 y) = true then vd_st K 0 x.toNatClampNeg y.toNatClampNeg else K) ∧ ans = (if (vd_in 0 15 x && vd_in 0 9999 y) = true then nI 0 else (-1 : Int32))) := by
  refine vd_entI (by decide) (Nat.le_of_ble_eq_true rfl) (lv := [(0, .ref (ad 30)), (1, .int x), (2, .int y)]) rfl ?_
  intro p e s m args below meth cd ls Q CX hl H locs HW RET
  have hx := CX.1
  have hb := CX.2.1
  refine lv_iload_n hx hb d_D_write_0 rfl (lv_at hl 1 rfl) ?_
  refine vd_callSi (As := [.int x]) (rest := []) CX HW (k_isFile l D ad K x) mo_D_isFile wt_D_isFile ml_D_29 rfl rfl ⟨Nat.le_of_ble_eq_true rfl, Nat.le_of_ble_eq_true rfl⟩ hl.1 (Nat.le_of_ble_eq_true rfl) d_D_write_1 ⟨Nat.zero_le _, Nat.zero_le _⟩ (fun r1 K2 H locs q3 HW => ?_)
  obtain ⟨rfl, rfl⟩ := q3
  refine vd_ifb_eq (tgt := 18) hx hb d_D_write_4 (by decide) (fun c_4 => ?_) (fun c_4 => ?_)
  · refine lv_iconst (v := (-1 : Int32)) hx hb d_D_write_18 (by decide) ?_
    exact RET _ _ _ _ _ _ d_D_write_19 (by first | (rw [vd_leI (by decide)] at c_15; have h90 : ¬ ((vd_in 0 15 x && vd_in 0 9999 y) = true) := (by rw [vd_in_h (lo := 0) (hi := 9999) (x := y) (by omega), Bool.and_false]; decide); rw [if_neg h90, if_neg h90]; exact ⟨rfl, rfl⟩) | (rw [vd_ltZ] at c_8; have h90 : ¬ ((vd_in 0 15 x && vd_in 0 9999 y) = true) := (by rw [vd_in_l (lo := 0) (hi := 9999) (x := y) (by omega), Bool.and_false]; decide); rw [if_neg h90, if_neg h90]; exact ⟨rfl, rfl⟩) | (have h90 : ¬ ((vd_in 0 15 x && vd_in 0 9999 y) = true) := (by rw [c_4]; simp); rw [if_neg h90, if_neg h90]; exact ⟨rfl, rfl⟩)) HW
  · refine lv_iload_n hx hb d_D_write_7 rfl (lv_at hl 2 rfl) ?_
    refine lv_if_lt (tgt := 18) hx hb d_D_write_8 (by decide) (fun c_8 => ?_) (fun c_8 => ?_)
    · refine lv_iconst (v := (-1 : Int32)) hx hb d_D_write_18 (by decide) ?_
      exact RET _ _ _ _ _ _ d_D_write_19 (by first | (rw [vd_leI (by decide)] at c_15; have h90 : ¬ ((vd_in 0 15 x && vd_in 0 9999 y) = true) := (by rw [vd_in_h (lo := 0) (hi := 9999) (x := y) (by omega), Bool.and_false]; decide); rw [if_neg h90, if_neg h90]; exact ⟨rfl, rfl⟩) | (rw [vd_ltZ] at c_8; have h90 : ¬ ((vd_in 0 15 x && vd_in 0 9999 y) = true) := (by rw [vd_in_l (lo := 0) (hi := 9999) (x := y) (by omega), Bool.and_false]; decide); rw [if_neg h90, if_neg h90]; exact ⟨rfl, rfl⟩) | (have h90 : ¬ ((vd_in 0 15 x && vd_in 0 9999 y) = true) := (by rw [c_4]; simp); rw [if_neg h90, if_neg h90]; exact ⟨rfl, rfl⟩)) HW
    · refine lv_iload_n hx hb d_D_write_11 rfl (lv_at hl 2 rfl) ?_
      refine lv_sipush (v := (nI 9999)) hx hb d_D_write_12 (by decide) ?_
      refine lv_icmp_le (tgt := 20) hx hb d_D_write_15 (by decide) (fun c_15 => ?_) (fun c_15 => ?_)
      · have c_y : vd_in 0 9999 y = true := vd_in_y (by rw [vd_ltZ] at c_8; omega) (by rw [vd_leI (by decide)] at c_15; omega)
        obtain ⟨f, hf1, hf2, rfl⟩ := vd_in_t c_4
        obtain ⟨g, hg1, hg2, rfl⟩ := vd_in_t c_y
        refine lv_aload_n hx hb d_D_write_20 rfl (lv_at hl 0 rfl) ?_
        refine vg_30_work CX HW lk_D_16 d_D_write_21 ?_
        refine lv_iload_n hx hb d_D_write_24 rfl (lv_at hl 1 rfl) ?_
        refine lv_iload_n hx hb d_D_write_25 rfl (lv_at hl 2 rfl) ?_
        refine vd_iast CX HW (j := 0) (i := f) (x := g) rfl (show f < 16 by omega) (show g ≤ 9999 by omega) d_D_write_26 (fun K4 H locs eK4 HW => ?_)
        refine lv_iconst (v := (nI 0)) hx hb d_D_write_27 (by decide) ?_
        exact RET _ _ _ _ _ _ d_D_write_28 (by have h90 : (vd_in 0 15 (nI f) && vd_in 0 9999 (nI g)) = true := (by rw [c_4, c_y]; rfl); rw [nI_clamp (show f < 2 ^ 31 by omega)]; rw [nI_clamp (show g < 2 ^ 31 by omega)]; rw [if_pos h90, if_pos h90]; subst_vars; exact ⟨rfl, rfl⟩) HW
      · refine lv_iconst (v := (-1 : Int32)) hx hb d_D_write_18 (by decide) ?_
        exact RET _ _ _ _ _ _ d_D_write_19 (by first | (rw [vd_leI (by decide)] at c_15; have h90 : ¬ ((vd_in 0 15 x && vd_in 0 9999 y) = true) := (by rw [vd_in_h (lo := 0) (hi := 9999) (x := y) (by omega), Bool.and_false]; decide); rw [if_neg h90, if_neg h90]; exact ⟨rfl, rfl⟩) | (rw [vd_ltZ] at c_8; have h90 : ¬ ((vd_in 0 15 x && vd_in 0 9999 y) = true) := (by rw [vd_in_l (lo := 0) (hi := 9999) (x := y) (by omega), Bool.and_false]; decide); rw [if_neg h90, if_neg h90]; exact ⟨rfl, rfl⟩) | (have h90 : ¬ ((vd_in 0 15 x && vd_in 0 9999 y) = true) := (by rw [c_4]; simp); rw [if_neg h90, if_neg h90]; exact ⟨rfl, rfl⟩)) HW
set_option maxHeartbeats 1000000 in
set_option maxRecDepth 100000 in
theorem k_stage (l : Launch) (D : va_G) (ad : Nat → Nat) (K : KT) (x : Int32)  : vd_MI l y_D_stage c_D_stage 2 (some .int) 1 21 D ad [.ref (ad 30), .int x] K (fun (ans : Int32) (K' : KT) => K' = (if vd_in 0 15 x = true then vd_stK K x.toNatClampNeg else K) ∧ ans = (if vd_in 0 15 x = true then nI 0 else (-1 : Int32))) := by
  refine vd_entI (by decide) (Nat.le_of_ble_eq_true rfl) (lv := [(0, .ref (ad 30)), (1, .int x)]) rfl ?_
  intro p e s m args below meth cd ls Q CX hl H locs HW RET
  have hx := CX.1
  have hb := CX.2.1
  refine lv_iload_n hx hb d_D_stage_0 rfl (lv_at hl 1 rfl) ?_
  refine vd_callSi (As := [.int x]) (rest := []) CX HW (k_isFile l D ad K x) mo_D_isFile wt_D_isFile ml_D_29 rfl rfl ⟨Nat.le_of_ble_eq_true rfl, Nat.le_of_ble_eq_true rfl⟩ hl.1 (Nat.le_of_ble_eq_true rfl) d_D_stage_1 ⟨Nat.zero_le _, Nat.zero_le _⟩ (fun r1 K2 H locs q3 HW => ?_)
  obtain ⟨rfl, rfl⟩ := q3
  refine vd_ifb_ne (tgt := 9) hx hb d_D_stage_4 (by decide) (fun c_4 => ?_) (fun c_4 => ?_)
  · obtain ⟨f, hf1, hf2, rfl⟩ := vd_in_t c_4
    refine lv_aload_n hx hb d_D_stage_9 rfl (lv_at hl 0 rfl) ?_
    refine vg_30_index CX HW lk_D_20 d_D_stage_10 ?_
    refine lv_iload_n hx hb d_D_stage_13 rfl (lv_at hl 1 rfl) ?_
    refine lv_aload_n hx hb d_D_stage_14 rfl (lv_at hl 0 rfl) ?_
    refine vg_30_work CX HW lk_D_16 d_D_stage_15 ?_
    refine lv_iload_n hx hb d_D_stage_18 rfl (lv_at hl 1 rfl) ?_
    refine vd_iald CX HW (j := 0) (i := f) rfl (show f < 16 by omega) d_D_stage_19 (fun b4 => ?_)
    have b4 : K 0 f ≤ 9999 := b4
    refine vd_iast CX HW (j := 1) (i := f) (x := (K 0 f)) rfl (show f < 16 by omega) (show K 0 f ≤ 9999 by omega) d_D_stage_20 (fun K5 H locs eK5 HW => ?_)
    refine lv_aload_n hx hb d_D_stage_21 rfl (lv_at hl 0 rfl) ?_
    refine vg_30_store CX HW lk_D_10 d_D_stage_22 ?_
    refine vg_31_blobs CX HW lk_D_33 d_D_stage_25 ?_
    refine lv_aload_n hx hb d_D_stage_28 rfl (lv_at hl 0 rfl) ?_
    refine vg_30_index CX HW lk_D_20 d_D_stage_29 ?_
    refine lv_iload_n hx hb d_D_stage_32 rfl (lv_at hl 1 rfl) ?_
    refine vd_iald CX HW (j := 1) (i := f) rfl (show f < 16 by omega) d_D_stage_33 (fun b6 => ?_)
    have b6 : K5 1 f ≤ 9999 := b6
    refine vd_callVv (As := [.int (nI (K5 1 f))]) (rest := []) CX HW (k_bkeep l D ad K5 (K5 1 f) (by omega)) mo_B_keep wi_B_keep ws_B_keep (vr_32 CX HW) ml_D_37 rfl rfl ⟨Nat.le_of_ble_eq_true rfl, Nat.le_of_ble_eq_true rfl⟩ hl.1 (Nat.le_of_ble_eq_true rfl) d_D_stage_34 ⟨Nat.zero_le _, Nat.zero_le _⟩ (fun K8 H locs q9 HW => ?_)
    have eK8 := q9
    refine lv_aload_n hx hb d_D_stage_37 rfl (lv_at hl 0 rfl) ?_
    refine lv_dup hx hb d_D_stage_38 rfl ?_
    refine vg_30_clashes CX HW lk_D_43 d_D_stage_39 (fun b10 => ?_)
    have b10 : K8 42 0 ≤ 65535 := b10
    refine lv_iconst (v := (nI 1)) hx hb d_D_stage_42 (by decide) ?_
    refine lv_iload_n hx hb d_D_stage_43 rfl (lv_at hl 1 rfl) ?_
    refine vd_shl1 hx hb (by omega) d_D_stage_44 ?_
    refine lv_iconst (v := (-1 : Int32)) hx hb d_D_stage_45 (by decide) ?_
    refine lv_ixor hx hb d_D_stage_46 ?_
    refine vd_iclr hx hb (by omega) (by omega) d_D_stage_47 ?_
    refine vt_30_clashes CX HW (x := (vd_clr (K8 42 0) f)) (show vd_clr (K8 42 0) f ≤ 65535 by exact vd_clr_le (by omega)) lk_D_43 d_D_stage_48 (fun K11 H locs eK11 HW => ?_)
    refine lv_iconst (v := (nI 0)) hx hb d_D_stage_51 (by decide) ?_
    exact RET _ _ _ _ _ _ d_D_stage_52 (by have h90 : vd_in 0 15 (nI f) = true := (by exact c_4); rw [nI_clamp (show f < 2 ^ 31 by omega)]; rw [if_pos h90, if_pos h90]; refine ⟨?_, rfl⟩; rw [eK11, eK8, eK5]; unfold vd_stK; rw [vd_bk_o _ _ (a := 42) (by decide), vd_st_s, vd_st_o (by decide)]; simp) HW
  · refine lv_iconst (v := (-1 : Int32)) hx hb d_D_stage_7 (by decide) ?_
    exact RET _ _ _ _ _ _ d_D_stage_8 (by have h90 : ¬ (vd_in 0 15 x = true) := (by rw [c_4]; decide); rw [if_neg h90, if_neg h90]; exact ⟨rfl, rfl⟩) HW
set_option maxHeartbeats 1000000 in
set_option maxRecDepth 100000 in
theorem k_commit (l : Launch) (D : va_G) (ad : Nat → Nat) (K : KT)  (h45 : K 45 0 ≤ 4 * K 43 0) (h46 : K 46 0 ≤ K 43 0) : vd_MI l y_D_commit c_D_commit 1 (some .int) 5 122 D ad [.ref (ad 30)] K (fun (ans : Int32) (K' : KT) => K' = vd_cmK K ∧ ans = (vd_cmR K)) := by
  refine vd_entI (by decide) (Nat.le_of_ble_eq_true rfl) (lv := [(0, .ref (ad 30))]) rfl ?_
  intro p e s m args below meth cd ls Q CX hl H locs HW RET
  have hx := CX.1
  have hb := CX.2.1
  refine lv_aload_n hx hb d_D_commit_0 rfl (lv_at hl 0 rfl) ?_
  refine vg_30_clashes CX HW lk_D_43 d_D_commit_1 (fun b1 => ?_)
  have b1 : K 42 0 ≤ 65535 := b1
  refine vd_if_eq (tgt := 10) hx hb d_D_commit_4 (by decide) (by omega) (fun c_4 => ?_) (fun c_4 => ?_)
  · refine lv_aload_n hx hb d_D_commit_10 rfl (lv_at hl 0 rfl) ?_
    refine vg_30_merging CX HW lk_D_47 d_D_commit_11 (fun b2 => ?_)
    have b2 : K 41 0 ≤ 30 := b2
    refine vd_if_ne (tgt := 31) hx hb d_D_commit_14 (by decide) (by omega) (fun c_14 => ?_) (fun c_14 => ?_)
    · refine lv_aload_n hx hb d_D_commit_31 rfl (lv_at hl 0 rfl) ?_
      refine vg_30_store CX HW lk_D_10 d_D_commit_32 ?_
      refine vd_callVi (As := []) (rest := []) CX HW (k_isFull l D ad K) mo_S_isFull wi_S_isFull ws_S_isFull (vr_31 CX HW) ml_D_54 rfl rfl ⟨Nat.le_of_ble_eq_true rfl, Nat.le_of_ble_eq_true rfl⟩ hl.1 (Nat.le_of_ble_eq_true rfl) d_D_commit_35 ⟨Nat.zero_le _, Nat.zero_le _⟩ (fun r3 K4 H locs q5 HW => ?_)
      obtain ⟨rfl, rfl⟩ := q5
      refine vd_ifb_eq (tgt := 44) hx hb d_D_commit_38 (by decide) (fun c_38 => ?_) (fun c_38 => ?_)
      · have c_m := of_decide_eq_false c_38
        refine lv_aload_n hx hb d_D_commit_44 rfl (lv_at hl 0 rfl) ?_
        refine vg_30_tips CX HW lk_D_26 d_D_commit_45 ?_
        refine lv_aload_n hx hb d_D_commit_48 rfl (lv_at hl 0 rfl) ?_
        refine vg_30_head CX HW lk_D_58 d_D_commit_49 (fun b6 => ?_)
        have b6 : K 40 0 ≤ 5 := b6
        refine lv_aload_n hx hb d_D_commit_52 rfl (lv_at hl 0 rfl) ?_
        refine vg_30_store CX HW lk_D_10 d_D_commit_53 ?_
        refine lv_aload_n hx hb d_D_commit_56 rfl (lv_at hl 0 rfl) ?_
        refine vg_30_index CX HW lk_D_20 d_D_commit_57 ?_
        refine lv_aload_n hx hb d_D_commit_60 rfl (lv_at hl 0 rfl) ?_
        refine vd_callVi (As := []) (rest := [.ref (ad 1), .ref (ad 31), .int (nI (K 40 0)), .ref (ad 3)]) CX HW (k_here l D ad K) mo_D_here wi_D_here ws_D_here (vr_30 CX HW) ml_D_61 rfl rfl ⟨Nat.le_of_ble_eq_true rfl, Nat.le_of_ble_eq_true rfl⟩ hl.1 (Nat.le_of_ble_eq_true rfl) d_D_commit_61 ⟨Nat.zero_le _, Nat.zero_le _⟩ (fun r7 K8 H locs q9 HW => ?_)
        obtain ⟨rfl, rfl, b10⟩ := q9
        have b10 : vd_here K ≤ 30 := b10
        refine lv_aload_n hx hb d_D_commit_64 rfl (lv_at hl 0 rfl) ?_
        refine vg_30_merging CX HW lk_D_47 d_D_commit_65 (fun b11 => ?_)
        have b11 : K 41 0 ≤ 30 := b11
        refine vd_callVi (As := [.ref (ad 1), .int (nI (vd_here K)), .int (nI (K 41 0))]) (rest := [.int (nI (K 40 0)), .ref (ad 3)]) CX HW (k_make_1 l D ad K (vd_here K) (K 41 0) (by omega) (by omega) (by omega) (by omega) (by omega)) mo_S_make wi_S_make ws_S_make (vr_31 CX HW) ml_D_65 rfl rfl ⟨Nat.le_of_ble_eq_true rfl, Nat.le_of_ble_eq_true rfl⟩ hl.1 (Nat.le_of_ble_eq_true rfl) d_D_commit_68 ⟨Nat.zero_le _, Nat.zero_le _⟩ (fun r12 K13 H locs q14 HW => ?_)
        obtain ⟨eK13, rfl⟩ := q14
        refine vd_iast CX HW (j := 3) (i := (K 40 0)) (x := (K 43 0 + 1)) rfl (show K 40 0 < 6 by omega) (show K 43 0 + 1 ≤ 30 by omega) d_D_commit_71 (fun K15 H locs eK15 HW => ?_)
        refine lv_aload_n hx hb d_D_commit_72 rfl (lv_at hl 0 rfl) ?_
        refine lv_iconst (v := (nI 0)) hx hb d_D_commit_73 (by decide) ?_
        refine vt_30_merging CX HW (x := 0) (show 0 ≤ 30 by omega) lk_D_47 d_D_commit_74 (fun K16 H locs eK16 HW => ?_)
        refine lv_aload_n hx hb d_D_commit_77 rfl (lv_at hl 0 rfl) ?_
        refine vd_callVi (As := []) (rest := []) CX HW (k_here l D ad K16) mo_D_here wi_D_here ws_D_here (vr_30 CX HW) ml_D_61 rfl rfl ⟨Nat.le_of_ble_eq_true rfl, Nat.le_of_ble_eq_true rfl⟩ hl.1 (Nat.le_of_ble_eq_true rfl) d_D_commit_78 ⟨Nat.zero_le _, Nat.zero_le _⟩ (fun r17 K18 H locs q19 HW => ?_)
        obtain ⟨rfl, rfl, b20⟩ := q19
        have b20 : vd_here K16 ≤ 30 := b20
        exact RET _ _ _ _ _ _ d_D_commit_81 (by have h90 : ¬ (K 42 0 ≠ 0) := (by omega); have h91 : ¬ (K 41 0 = 0 ∧ vd_ash K 1 = true) := (by first | (rw [c_25]; simp) | (exact fun z => c_14 z.1)); have h92 : ¬ (30 ≤ K 43 0) := (by exact c_m); unfold vd_cmK vd_cmR; rw [if_neg h90, if_neg h90, if_neg h91, if_neg h91, if_neg h92, if_neg h92]; subst_vars; refine ⟨rfl, ?_⟩; simp [vd_here, vd_st_o, vd_st_s, vd_mkK_40]) HW
      · refine lv_bipush (v := (-2 : Int32)) hx hb d_D_commit_41 (by decide) ?_
        exact RET _ _ _ _ _ _ d_D_commit_43 (by have c_m := of_decide_eq_true c_38; have h90 : ¬ (K 42 0 ≠ 0) := (by omega); have h91 : ¬ (K 41 0 = 0 ∧ vd_ash K 1 = true) := (by first | (rw [c_25]; simp) | (exact fun z => c_14 z.1)); have h92 : 30 ≤ K 43 0 := (by exact c_m); unfold vd_cmK vd_cmR; rw [if_neg h90, if_neg h90, if_neg h91, if_neg h91, if_pos h92, if_pos h92]; exact ⟨rfl, rfl⟩) HW
    · refine lv_aload_n hx hb d_D_commit_17 rfl (lv_at hl 0 rfl) ?_
      refine lv_aload_n hx hb d_D_commit_18 rfl (lv_at hl 0 rfl) ?_
      refine vg_30_index CX HW lk_D_20 d_D_commit_19 ?_
      refine vd_callVi (As := [.ref (ad 1)]) (rest := []) CX HW (k_ash_1 l D ad K) mo_D_isAsHere wi_D_isAsHere ws_D_isAsHere (vr_30 CX HW) ml_D_50 rfl rfl ⟨Nat.le_of_ble_eq_true rfl, Nat.le_of_ble_eq_true rfl⟩ hl.1 (Nat.le_of_ble_eq_true rfl) d_D_commit_22 ⟨Nat.zero_le _, Nat.zero_le _⟩ (fun r21 K22 H locs q23 HW => ?_)
      obtain ⟨rfl, rfl⟩ := q23
      refine vd_ifb_eq (tgt := 31) hx hb d_D_commit_25 (by decide) (fun c_25 => ?_) (fun c_25 => ?_)
      · refine lv_aload_n hx hb d_D_commit_31 rfl (lv_at hl 0 rfl) ?_
        refine vg_30_store CX HW lk_D_10 d_D_commit_32 ?_
        refine vd_callVi (As := []) (rest := []) CX HW (k_isFull l D ad K) mo_S_isFull wi_S_isFull ws_S_isFull (vr_31 CX HW) ml_D_54 rfl rfl ⟨Nat.le_of_ble_eq_true rfl, Nat.le_of_ble_eq_true rfl⟩ hl.1 (Nat.le_of_ble_eq_true rfl) d_D_commit_35 ⟨Nat.zero_le _, Nat.zero_le _⟩ (fun r24 K25 H locs q26 HW => ?_)
        obtain ⟨rfl, rfl⟩ := q26
        refine vd_ifb_eq (tgt := 44) hx hb d_D_commit_38 (by decide) (fun c_38 => ?_) (fun c_38 => ?_)
        · have c_m := of_decide_eq_false c_38
          refine lv_aload_n hx hb d_D_commit_44 rfl (lv_at hl 0 rfl) ?_
          refine vg_30_tips CX HW lk_D_26 d_D_commit_45 ?_
          refine lv_aload_n hx hb d_D_commit_48 rfl (lv_at hl 0 rfl) ?_
          refine vg_30_head CX HW lk_D_58 d_D_commit_49 (fun b27 => ?_)
          have b27 : K 40 0 ≤ 5 := b27
          refine lv_aload_n hx hb d_D_commit_52 rfl (lv_at hl 0 rfl) ?_
          refine vg_30_store CX HW lk_D_10 d_D_commit_53 ?_
          refine lv_aload_n hx hb d_D_commit_56 rfl (lv_at hl 0 rfl) ?_
          refine vg_30_index CX HW lk_D_20 d_D_commit_57 ?_
          refine lv_aload_n hx hb d_D_commit_60 rfl (lv_at hl 0 rfl) ?_
          refine vd_callVi (As := []) (rest := [.ref (ad 1), .ref (ad 31), .int (nI (K 40 0)), .ref (ad 3)]) CX HW (k_here l D ad K) mo_D_here wi_D_here ws_D_here (vr_30 CX HW) ml_D_61 rfl rfl ⟨Nat.le_of_ble_eq_true rfl, Nat.le_of_ble_eq_true rfl⟩ hl.1 (Nat.le_of_ble_eq_true rfl) d_D_commit_61 ⟨Nat.zero_le _, Nat.zero_le _⟩ (fun r28 K29 H locs q30 HW => ?_)
          obtain ⟨rfl, rfl, b31⟩ := q30
          have b31 : vd_here K ≤ 30 := b31
          refine lv_aload_n hx hb d_D_commit_64 rfl (lv_at hl 0 rfl) ?_
          refine vg_30_merging CX HW lk_D_47 d_D_commit_65 (fun b32 => ?_)
          have b32 : K 41 0 ≤ 30 := b32
          refine vd_callVi (As := [.ref (ad 1), .int (nI (vd_here K)), .int (nI (K 41 0))]) (rest := [.int (nI (K 40 0)), .ref (ad 3)]) CX HW (k_make_1 l D ad K (vd_here K) (K 41 0) (by omega) (by omega) (by omega) (by omega) (by omega)) mo_S_make wi_S_make ws_S_make (vr_31 CX HW) ml_D_65 rfl rfl ⟨Nat.le_of_ble_eq_true rfl, Nat.le_of_ble_eq_true rfl⟩ hl.1 (Nat.le_of_ble_eq_true rfl) d_D_commit_68 ⟨Nat.zero_le _, Nat.zero_le _⟩ (fun r33 K34 H locs q35 HW => ?_)
          obtain ⟨eK34, rfl⟩ := q35
          refine vd_iast CX HW (j := 3) (i := (K 40 0)) (x := (K 43 0 + 1)) rfl (show K 40 0 < 6 by omega) (show K 43 0 + 1 ≤ 30 by omega) d_D_commit_71 (fun K36 H locs eK36 HW => ?_)
          refine lv_aload_n hx hb d_D_commit_72 rfl (lv_at hl 0 rfl) ?_
          refine lv_iconst (v := (nI 0)) hx hb d_D_commit_73 (by decide) ?_
          refine vt_30_merging CX HW (x := 0) (show 0 ≤ 30 by omega) lk_D_47 d_D_commit_74 (fun K37 H locs eK37 HW => ?_)
          refine lv_aload_n hx hb d_D_commit_77 rfl (lv_at hl 0 rfl) ?_
          refine vd_callVi (As := []) (rest := []) CX HW (k_here l D ad K37) mo_D_here wi_D_here ws_D_here (vr_30 CX HW) ml_D_61 rfl rfl ⟨Nat.le_of_ble_eq_true rfl, Nat.le_of_ble_eq_true rfl⟩ hl.1 (Nat.le_of_ble_eq_true rfl) d_D_commit_78 ⟨Nat.zero_le _, Nat.zero_le _⟩ (fun r38 K39 H locs q40 HW => ?_)
          obtain ⟨rfl, rfl, b41⟩ := q40
          have b41 : vd_here K37 ≤ 30 := b41
          exact RET _ _ _ _ _ _ d_D_commit_81 (by have h90 : ¬ (K 42 0 ≠ 0) := (by omega); have h91 : ¬ (K 41 0 = 0 ∧ vd_ash K 1 = true) := (by first | (rw [c_25]; simp) | (exact fun z => c_14 z.1)); have h92 : ¬ (30 ≤ K 43 0) := (by exact c_m); unfold vd_cmK vd_cmR; rw [if_neg h90, if_neg h90, if_neg h91, if_neg h91, if_neg h92, if_neg h92]; subst_vars; refine ⟨rfl, ?_⟩; simp [vd_here, vd_st_o, vd_st_s, vd_mkK_40]) HW
        · refine lv_bipush (v := (-2 : Int32)) hx hb d_D_commit_41 (by decide) ?_
          exact RET _ _ _ _ _ _ d_D_commit_43 (by have c_m := of_decide_eq_true c_38; have h90 : ¬ (K 42 0 ≠ 0) := (by omega); have h91 : ¬ (K 41 0 = 0 ∧ vd_ash K 1 = true) := (by first | (rw [c_25]; simp) | (exact fun z => c_14 z.1)); have h92 : 30 ≤ K 43 0 := (by exact c_m); unfold vd_cmK vd_cmR; rw [if_neg h90, if_neg h90, if_neg h91, if_neg h91, if_pos h92, if_pos h92]; exact ⟨rfl, rfl⟩) HW
      · refine lv_bipush (v := (-3 : Int32)) hx hb d_D_commit_28 (by decide) ?_
        exact RET _ _ _ _ _ _ d_D_commit_30 (by have h90 : ¬ (K 42 0 ≠ 0) := (by omega); have h91 : K 41 0 = 0 ∧ vd_ash K 1 = true := (by exact ⟨c_14, c_25⟩); unfold vd_cmK vd_cmR; rw [if_neg h90, if_neg h90, if_pos h91, if_pos h91]; exact ⟨rfl, rfl⟩) HW
  · refine lv_bipush (v := (-5 : Int32)) hx hb d_D_commit_7 (by decide) ?_
    exact RET _ _ _ _ _ _ d_D_commit_9 (by have h90 : K 42 0 ≠ 0 := (by exact c_4); unfold vd_cmK vd_cmR; rw [if_pos h90, if_pos h90]; exact ⟨rfl, rfl⟩) HW
set_option maxHeartbeats 1000000 in
set_option maxRecDepth 100000 in
theorem k_branch (l : Launch) (D : va_G) (ad : Nat → Nat) (K : KT) (x : Int32)  : vd_MI l y_D_branch c_D_branch 2 (some .int) 1 20 D ad [.ref (ad 30), .int x] K (fun (ans : Int32) (K' : KT) => K' = (if (vd_in 0 5 x && (K 3 x.toNatClampNeg == 0) && (vd_here K != 0)) = true then vd_st K 3 x.toNatClampNeg (vd_here K) else K) ∧ ans = (if (vd_in 0 5 x && (K 3 x.toNatClampNeg == 0) && (vd_here K != 0)) = true then nI 0 else (-1 : Int32))) := by
  refine vd_entI (by decide) (Nat.le_of_ble_eq_true rfl) (lv := [(0, .ref (ad 30)), (1, .int x)]) rfl ?_
  intro p e s m args below meth cd ls Q CX hl H locs HW RET
  have hx := CX.1
  have hb := CX.2.1
  refine lv_iload_n hx hb d_D_branch_0 rfl (lv_at hl 1 rfl) ?_
  refine vd_callSi (As := [.int x]) (rest := []) CX HW (k_isBranch l D ad K x) mo_D_isBranch wt_D_isBranch ml_D_69 rfl rfl ⟨Nat.le_of_ble_eq_true rfl, Nat.le_of_ble_eq_true rfl⟩ hl.1 (Nat.le_of_ble_eq_true rfl) d_D_branch_1 ⟨Nat.zero_le _, Nat.zero_le _⟩ (fun r1 K2 H locs q3 HW => ?_)
  obtain ⟨rfl, rfl⟩ := q3
  refine vd_ifb_eq (tgt := 23) hx hb d_D_branch_4 (by decide) (fun c_4 => ?_) (fun c_4 => ?_)
  · refine lv_iconst (v := (-1 : Int32)) hx hb d_D_branch_23 (by decide) ?_
    exact RET _ _ _ _ _ _ d_D_branch_24 (by first | (have h90 : ¬ ((vd_in 0 5 (nI f) && (K 3 f == 0) && (vd_here K != 0)) = true) := (by rw [c_20]; simp); rw [nI_clamp (show f < 2 ^ 31 by omega)]; rw [if_neg h90, if_neg h90]; exact ⟨rfl, rfl⟩) | (have h90 : ¬ ((vd_in 0 5 (nI f) && (K 3 f == 0) && (vd_here K != 0)) = true) := (by rw [beq_false_of_ne c_13]; simp); rw [nI_clamp (show f < 2 ^ 31 by omega)]; rw [if_neg h90, if_neg h90]; exact ⟨rfl, rfl⟩) | (have h90 : ¬ ((vd_in 0 5 x && (K 3 x.toNatClampNeg == 0) && (vd_here K != 0)) = true) := (by rw [c_4]; simp); rw [if_neg h90, if_neg h90]; exact ⟨rfl, rfl⟩)) HW
  · obtain ⟨f, hf1, hf2, rfl⟩ := vd_in_t c_4
    refine lv_aload_n hx hb d_D_branch_7 rfl (lv_at hl 0 rfl) ?_
    refine vg_30_tips CX HW lk_D_26 d_D_branch_8 ?_
    refine lv_iload_n hx hb d_D_branch_11 rfl (lv_at hl 1 rfl) ?_
    refine vd_iald CX HW (j := 3) (i := f) rfl (show f < 6 by omega) d_D_branch_12 (fun b4 => ?_)
    have b4 : K 3 f ≤ 30 := b4
    refine vd_if_ne (tgt := 23) hx hb d_D_branch_13 (by decide) (by omega) (fun c_13 => ?_) (fun c_13 => ?_)
    · refine lv_iconst (v := (-1 : Int32)) hx hb d_D_branch_23 (by decide) ?_
      exact RET _ _ _ _ _ _ d_D_branch_24 (by first | (have h90 : ¬ ((vd_in 0 5 (nI f) && (K 3 f == 0) && (vd_here K != 0)) = true) := (by rw [c_20]; simp); rw [nI_clamp (show f < 2 ^ 31 by omega)]; rw [if_neg h90, if_neg h90]; exact ⟨rfl, rfl⟩) | (have h90 : ¬ ((vd_in 0 5 (nI f) && (K 3 f == 0) && (vd_here K != 0)) = true) := (by rw [beq_false_of_ne c_13]; simp); rw [nI_clamp (show f < 2 ^ 31 by omega)]; rw [if_neg h90, if_neg h90]; exact ⟨rfl, rfl⟩) | (have h90 : ¬ ((vd_in 0 5 x && (K 3 x.toNatClampNeg == 0) && (vd_here K != 0)) = true) := (by rw [c_4]; simp); rw [if_neg h90, if_neg h90]; exact ⟨rfl, rfl⟩)) HW
    · refine lv_aload_n hx hb d_D_branch_16 rfl (lv_at hl 0 rfl) ?_
      refine vd_callVi (As := []) (rest := []) CX HW (k_here l D ad K) mo_D_here wi_D_here ws_D_here (vr_30 CX HW) ml_D_61 rfl rfl ⟨Nat.le_of_ble_eq_true rfl, Nat.le_of_ble_eq_true rfl⟩ hl.1 (Nat.le_of_ble_eq_true rfl) d_D_branch_17 ⟨Nat.zero_le _, Nat.zero_le _⟩ (fun r5 K6 H locs q7 HW => ?_)
      obtain ⟨rfl, rfl, b8⟩ := q7
      have b8 : vd_here K ≤ 30 := b8
      refine vd_if_ne (tgt := 25) hx hb d_D_branch_20 (by decide) (by omega) (fun c_20 => ?_) (fun c_20 => ?_)
      · refine lv_aload_n hx hb d_D_branch_25 rfl (lv_at hl 0 rfl) ?_
        refine vg_30_tips CX HW lk_D_26 d_D_branch_26 ?_
        refine lv_iload_n hx hb d_D_branch_29 rfl (lv_at hl 1 rfl) ?_
        refine lv_aload_n hx hb d_D_branch_30 rfl (lv_at hl 0 rfl) ?_
        refine vd_callVi (As := []) (rest := [.int (nI f), .ref (ad 3)]) CX HW (k_here l D ad K) mo_D_here wi_D_here ws_D_here (vr_30 CX HW) ml_D_61 rfl rfl ⟨Nat.le_of_ble_eq_true rfl, Nat.le_of_ble_eq_true rfl⟩ hl.1 (Nat.le_of_ble_eq_true rfl) d_D_branch_31 ⟨Nat.zero_le _, Nat.zero_le _⟩ (fun r9 K10 H locs q11 HW => ?_)
        obtain ⟨rfl, rfl, b12⟩ := q11
        have b12 : vd_here K ≤ 30 := b12
        refine vd_iast CX HW (j := 3) (i := f) (x := (vd_here K)) rfl (show f < 6 by omega) (show vd_here K ≤ 30 by omega) d_D_branch_34 (fun K13 H locs eK13 HW => ?_)
        refine lv_iconst (v := (nI 0)) hx hb d_D_branch_35 (by decide) ?_
        exact RET _ _ _ _ _ _ d_D_branch_36 (by have h90 : (vd_in 0 5 (nI f) && (K 3 f == 0) && (vd_here K != 0)) = true := (by rw [c_4, c_13]; simpa using c_20); rw [nI_clamp (show f < 2 ^ 31 by omega)]; rw [if_pos h90, if_pos h90]; subst_vars; exact ⟨rfl, rfl⟩) HW
      · refine lv_iconst (v := (-1 : Int32)) hx hb d_D_branch_23 (by decide) ?_
        exact RET _ _ _ _ _ _ d_D_branch_24 (by first | (have h90 : ¬ ((vd_in 0 5 (nI f) && (K 3 f == 0) && (vd_here K != 0)) = true) := (by rw [c_20]; simp); rw [nI_clamp (show f < 2 ^ 31 by omega)]; rw [if_neg h90, if_neg h90]; exact ⟨rfl, rfl⟩) | (have h90 : ¬ ((vd_in 0 5 (nI f) && (K 3 f == 0) && (vd_here K != 0)) = true) := (by rw [beq_false_of_ne c_13]; simp); rw [nI_clamp (show f < 2 ^ 31 by omega)]; rw [if_neg h90, if_neg h90]; exact ⟨rfl, rfl⟩) | (have h90 : ¬ ((vd_in 0 5 x && (K 3 x.toNatClampNeg == 0) && (vd_here K != 0)) = true) := (by rw [c_4]; simp); rw [if_neg h90, if_neg h90]; exact ⟨rfl, rfl⟩)) HW
set_option maxHeartbeats 1000000 in
set_option maxRecDepth 100000 in
theorem k_turn (l : Launch) (D : va_G) (ad : Nat → Nat) (K : KT) (x : Int32)  : vd_MI l y_D_turn c_D_turn 2 (some .int) 4 86 D ad [.ref (ad 30), .int x] K (fun (ans : Int32) (K' : KT) => K' = vd_tuK K x ∧ ans = (vd_tuR K x)) := by
  refine vd_entI (by decide) (Nat.le_of_ble_eq_true rfl) (lv := [(0, .ref (ad 30)), (1, .int x)]) rfl ?_
  intro p e s m args below meth cd ls Q CX hl H locs HW RET
  have hx := CX.1
  have hb := CX.2.1
  refine lv_aload_n hx hb d_D_turn_0 rfl (lv_at hl 0 rfl) ?_
  refine lv_iload_n hx hb d_D_turn_1 rfl (lv_at hl 1 rfl) ?_
  refine vd_callVi (As := [.int x]) (rest := []) CX HW (k_isThere l D ad K x) mo_D_isThere wi_D_isThere ws_D_isThere (vr_30 CX HW) ml_D_72 rfl rfl ⟨Nat.le_of_ble_eq_true rfl, Nat.le_of_ble_eq_true rfl⟩ hl.1 (Nat.le_of_ble_eq_true rfl) d_D_turn_2 ⟨Nat.zero_le _, Nat.zero_le _⟩ (fun r1 K2 H locs q3 HW => ?_)
  obtain ⟨rfl, rfl⟩ := q3
  refine vd_ifb_eq (tgt := 15) hx hb d_D_turn_5 (by decide) (fun c_5 => ?_) (fun c_5 => ?_)
  · refine lv_iconst (v := (-1 : Int32)) hx hb d_D_turn_15 (by decide) ?_
    exact RET _ _ _ _ _ _ d_D_turn_16 (by first | (have h90 : vd_there K x = false ∨ K 41 0 ≠ 0 := (by exact Or.inr c_12); unfold vd_tuK vd_tuR; rw [if_pos h90, if_pos h90]; exact ⟨rfl, rfl⟩) | (have h90 : vd_there K x = false ∨ K 41 0 ≠ 0 := (by exact Or.inl c_5); unfold vd_tuK vd_tuR; rw [if_pos h90, if_pos h90]; exact ⟨rfl, rfl⟩)) HW
  · refine lv_aload_n hx hb d_D_turn_8 rfl (lv_at hl 0 rfl) ?_
    refine vg_30_merging CX HW lk_D_47 d_D_turn_9 (fun b4 => ?_)
    have b4 : K 41 0 ≤ 30 := b4
    refine vd_if_eq (tgt := 17) hx hb d_D_turn_12 (by decide) (by omega) (fun c_12 => ?_) (fun c_12 => ?_)
    · refine lv_aload_n hx hb d_D_turn_17 rfl (lv_at hl 0 rfl) ?_
      refine vd_callVi (As := []) (rest := []) CX HW (k_tidy l D ad K) mo_D_isTidy wi_D_isTidy ws_D_isTidy (vr_30 CX HW) ml_D_75 rfl rfl ⟨Nat.le_of_ble_eq_true rfl, Nat.le_of_ble_eq_true rfl⟩ hl.1 (Nat.le_of_ble_eq_true rfl) d_D_turn_18 ⟨Nat.zero_le _, Nat.zero_le _⟩ (fun r5 K6 H locs q7 HW => ?_)
      obtain ⟨rfl, rfl⟩ := q7
      refine vd_ifb_ne (tgt := 27) hx hb d_D_turn_21 (by decide) (fun c_21 => ?_) (fun c_21 => ?_)
      · obtain ⟨f, hf1, hf2, rfl, hf3⟩ := vd_there_t c_5
        refine lv_aload_n hx hb d_D_turn_27 rfl (lv_at hl 0 rfl) ?_
        refine lv_iload_n hx hb d_D_turn_28 rfl (lv_at hl 1 rfl) ?_
        refine vt_30_head CX HW (x := f) (show f ≤ 5 by omega) lk_D_58 d_D_turn_29 (fun K8 H locs eK8 HW => ?_)
        refine lv_aload_n hx hb d_D_turn_32 rfl (lv_at hl 0 rfl) ?_
        refine lv_aload_n hx hb d_D_turn_33 rfl (lv_at hl 0 rfl) ?_
        refine vg_30_tips CX HW lk_D_26 d_D_turn_34 ?_
        refine lv_iload_n hx hb d_D_turn_37 rfl (lv_at hl 1 rfl) ?_
        refine vd_iald CX HW (j := 3) (i := f) rfl (show f < 6 by omega) d_D_turn_38 (fun b9 => ?_)
        have b9 : K8 3 f ≤ 30 := b9
        refine vd_callVi (As := [.int (nI (K8 3 f))]) (rest := []) CX HW (k_move l D ad K8 (K8 3 f) (by omega)) mo_D_moveTo wi_D_moveTo ws_D_moveTo (vr_30 CX HW) ml_D_78 rfl rfl ⟨Nat.le_of_ble_eq_true rfl, Nat.le_of_ble_eq_true rfl⟩ hl.1 (Nat.le_of_ble_eq_true rfl) d_D_turn_39 ⟨Nat.zero_le _, Nat.zero_le _⟩ (fun r10 K11 H locs q12 HW => ?_)
        obtain ⟨eK11, rfl⟩ := q12
        exact RET _ _ _ _ _ _ d_D_turn_42 (by have h90 : ¬ (vd_there K (nI f) = false ∨ K 41 0 ≠ 0) := (by rw [c_5]; simp [c_12]); have h91 : ¬ (vd_tidy K = false) := (by rw [c_21]; decide); unfold vd_tuK vd_tuR; rw [nI_clamp (show f < 2 ^ 31 by omega)]; rw [if_neg h90, if_neg h90, if_neg h91, if_neg h91]; subst_vars; exact ⟨rfl, rfl⟩) HW
      · refine lv_bipush (v := (-4 : Int32)) hx hb d_D_turn_24 (by decide) ?_
        exact RET _ _ _ _ _ _ d_D_turn_26 (by have h90 : ¬ (vd_there K x = false ∨ K 41 0 ≠ 0) := (by rw [c_5]; simp [c_12]); have h91 : vd_tidy K = false := (by exact c_21); unfold vd_tuK vd_tuR; rw [if_neg h90, if_neg h90, if_pos h91, if_pos h91]; exact ⟨rfl, rfl⟩) HW
    · refine lv_iconst (v := (-1 : Int32)) hx hb d_D_turn_15 (by decide) ?_
      exact RET _ _ _ _ _ _ d_D_turn_16 (by first | (have h90 : vd_there K x = false ∨ K 41 0 ≠ 0 := (by exact Or.inr c_12); unfold vd_tuK vd_tuR; rw [if_pos h90, if_pos h90]; exact ⟨rfl, rfl⟩) | (have h90 : vd_there K x = false ∨ K 41 0 ≠ 0 := (by exact Or.inl c_5); unfold vd_tuK vd_tuR; rw [if_pos h90, if_pos h90]; exact ⟨rfl, rfl⟩)) HW
set_option maxHeartbeats 1000000 in
set_option maxRecDepth 100000 in
theorem k_merge (l : Launch) (D : va_G) (ad : Nat → Nat) (K : KT) (x : Int32) (h45 : K 45 0 ≤ 4 * K 43 0) (h46 : K 46 0 ≤ K 43 0) : vd_MI l y_D_merge c_D_merge 3 (some .int) 6 144 D ad [.ref (ad 30), .int x] K (fun (ans : Int32) (K' : KT) => K' = vd_meK K x ∧ ans = (vd_meR K x)) := by
  refine vd_entI (by decide) (Nat.le_of_ble_eq_true rfl) (lv := [(0, .ref (ad 30)), (1, .int x)]) rfl ?_
  intro p e s m args below meth cd ls Q CX hl H locs HW RET
  have hx := CX.1
  have hb := CX.2.1
  refine lv_aload_n hx hb d_D_merge_0 rfl (lv_at hl 0 rfl) ?_
  refine lv_iload_n hx hb d_D_merge_1 rfl (lv_at hl 1 rfl) ?_
  refine vd_callVi (As := [.int x]) (rest := []) CX HW (k_isThere l D ad K x) mo_D_isThere wi_D_isThere ws_D_isThere (vr_30 CX HW) ml_D_72 rfl rfl ⟨Nat.le_of_ble_eq_true rfl, Nat.le_of_ble_eq_true rfl⟩ hl.1 (Nat.le_of_ble_eq_true rfl) d_D_merge_2 ⟨Nat.zero_le _, Nat.zero_le _⟩ (fun r1 K2 H locs q3 HW => ?_)
  obtain ⟨rfl, rfl⟩ := q3
  refine vd_ifb_eq (tgt := 22) hx hb d_D_merge_5 (by decide) (fun c_5 => ?_) (fun c_5 => ?_)
  · refine lv_iconst (v := (-1 : Int32)) hx hb d_D_merge_22 (by decide) ?_
    exact RET _ _ _ _ _ _ d_D_merge_23 (by first | (have h90 : vd_there K x = false ∨ vd_here K = 0 ∨ K 41 0 ≠ 0 := (by exact Or.inr (Or.inr c_19)); unfold vd_meK vd_meR; rw [if_pos h90, if_pos h90]; exact ⟨rfl, rfl⟩) | (have h90 : vd_there K x = false ∨ vd_here K = 0 ∨ K 41 0 ≠ 0 := (by exact Or.inr (Or.inl c_12)); unfold vd_meK vd_meR; rw [if_pos h90, if_pos h90]; exact ⟨rfl, rfl⟩) | (have h90 : vd_there K x = false ∨ vd_here K = 0 ∨ K 41 0 ≠ 0 := (by exact Or.inl c_5); unfold vd_meK vd_meR; rw [if_pos h90, if_pos h90]; exact ⟨rfl, rfl⟩)) HW
  · refine lv_aload_n hx hb d_D_merge_8 rfl (lv_at hl 0 rfl) ?_
    refine vd_callVi (As := []) (rest := []) CX HW (k_here l D ad K) mo_D_here wi_D_here ws_D_here (vr_30 CX HW) ml_D_61 rfl rfl ⟨Nat.le_of_ble_eq_true rfl, Nat.le_of_ble_eq_true rfl⟩ hl.1 (Nat.le_of_ble_eq_true rfl) d_D_merge_9 ⟨Nat.zero_le _, Nat.zero_le _⟩ (fun r4 K5 H locs q6 HW => ?_)
    obtain ⟨rfl, rfl, b7⟩ := q6
    have b7 : vd_here K ≤ 30 := b7
    refine vd_if_eq (tgt := 22) hx hb d_D_merge_12 (by decide) (by omega) (fun c_12 => ?_) (fun c_12 => ?_)
    · refine lv_iconst (v := (-1 : Int32)) hx hb d_D_merge_22 (by decide) ?_
      exact RET _ _ _ _ _ _ d_D_merge_23 (by first | (have h90 : vd_there K x = false ∨ vd_here K = 0 ∨ K 41 0 ≠ 0 := (by exact Or.inr (Or.inr c_19)); unfold vd_meK vd_meR; rw [if_pos h90, if_pos h90]; exact ⟨rfl, rfl⟩) | (have h90 : vd_there K x = false ∨ vd_here K = 0 ∨ K 41 0 ≠ 0 := (by exact Or.inr (Or.inl c_12)); unfold vd_meK vd_meR; rw [if_pos h90, if_pos h90]; exact ⟨rfl, rfl⟩) | (have h90 : vd_there K x = false ∨ vd_here K = 0 ∨ K 41 0 ≠ 0 := (by exact Or.inl c_5); unfold vd_meK vd_meR; rw [if_pos h90, if_pos h90]; exact ⟨rfl, rfl⟩)) HW
    · refine lv_aload_n hx hb d_D_merge_15 rfl (lv_at hl 0 rfl) ?_
      refine vg_30_merging CX HW lk_D_47 d_D_merge_16 (fun b8 => ?_)
      have b8 : K 41 0 ≤ 30 := b8
      refine vd_if_eq (tgt := 24) hx hb d_D_merge_19 (by decide) (by omega) (fun c_19 => ?_) (fun c_19 => ?_)
      · refine lv_aload_n hx hb d_D_merge_24 rfl (lv_at hl 0 rfl) ?_
        refine vd_callVi (As := []) (rest := []) CX HW (k_tidy l D ad K) mo_D_isTidy wi_D_isTidy ws_D_isTidy (vr_30 CX HW) ml_D_75 rfl rfl ⟨Nat.le_of_ble_eq_true rfl, Nat.le_of_ble_eq_true rfl⟩ hl.1 (Nat.le_of_ble_eq_true rfl) d_D_merge_25 ⟨Nat.zero_le _, Nat.zero_le _⟩ (fun r9 K10 H locs q11 HW => ?_)
        obtain ⟨rfl, rfl⟩ := q11
        refine vd_ifb_ne (tgt := 34) hx hb d_D_merge_28 (by decide) (fun c_28 => ?_) (fun c_28 => ?_)
        · obtain ⟨f, hf1, hf2, rfl, hf3⟩ := vd_there_t c_5
          refine lv_aload_n hx hb d_D_merge_34 rfl (lv_at hl 0 rfl) ?_
          refine vg_30_tips CX HW lk_D_26 d_D_merge_35 ?_
          refine lv_iload_n hx hb d_D_merge_38 rfl (lv_at hl 1 rfl) ?_
          refine vd_iald CX HW (j := 3) (i := f) rfl (show f < 6 by omega) d_D_merge_39 (fun b12 => ?_)
          have b12 : K 3 f ≤ 30 := b12
          refine lv_istore_n (lv' := [(2, .int (nI (K 3 f))), (0, .ref (ad 30)), (1, .int (nI f))]) hx hb d_D_merge_40 rfl hl (by decide) rfl (fun ls hl => ?_)
          refine lv_aload_n hx hb d_D_merge_41 rfl (lv_at hl 1 rfl) ?_
          refine vg_30_store CX HW lk_D_10 d_D_merge_42 ?_
          refine lv_aload_n hx hb d_D_merge_45 rfl (lv_at hl 1 rfl) ?_
          refine vd_callVi (As := []) (rest := [.ref (ad 31)]) CX HW (k_here l D ad K) mo_D_here wi_D_here ws_D_here (vr_30 CX HW) ml_D_61 rfl rfl ⟨Nat.le_of_ble_eq_true rfl, Nat.le_of_ble_eq_true rfl⟩ hl.1 (Nat.le_of_ble_eq_true rfl) d_D_merge_46 ⟨Nat.zero_le _, Nat.zero_le _⟩ (fun r13 K14 H locs q15 HW => ?_)
          obtain ⟨rfl, rfl, b16⟩ := q15
          have b16 : vd_here K ≤ 30 := b16
          refine lv_iload_n hx hb d_D_merge_49 rfl (lv_at hl 0 rfl) ?_
          refine vd_callVi (As := [.int (nI (vd_here K)), .int (nI (K 3 f))]) (rest := []) CX HW (k_leadsTo l D ad K (vd_here K) (K 3 f) (by omega) (by omega)) mo_S_leadsTo wi_S_leadsTo ws_S_leadsTo (vr_31 CX HW) ml_D_82 rfl rfl ⟨Nat.le_of_ble_eq_true rfl, Nat.le_of_ble_eq_true rfl⟩ hl.1 (Nat.le_of_ble_eq_true rfl) d_D_merge_50 ⟨Nat.zero_le _, Nat.zero_le _⟩ (fun r17 K18 H locs q19 HW => ?_)
          obtain ⟨rfl, rfl⟩ := q19
          refine vd_ifb_eq (tgt := 58) hx hb d_D_merge_53 (by decide) (fun c_53 => ?_) (fun c_53 => ?_)
          · refine lv_aload_n hx hb d_D_merge_58 rfl (lv_at hl 1 rfl) ?_
            refine vg_30_store CX HW lk_D_10 d_D_merge_59 ?_
            refine lv_iload_n hx hb d_D_merge_62 rfl (lv_at hl 0 rfl) ?_
            refine lv_aload_n hx hb d_D_merge_63 rfl (lv_at hl 1 rfl) ?_
            refine vd_callVi (As := []) (rest := [.int (nI (K 3 f)), .ref (ad 31)]) CX HW (k_here l D ad K) mo_D_here wi_D_here ws_D_here (vr_30 CX HW) ml_D_61 rfl rfl ⟨Nat.le_of_ble_eq_true rfl, Nat.le_of_ble_eq_true rfl⟩ hl.1 (Nat.le_of_ble_eq_true rfl) d_D_merge_64 ⟨Nat.zero_le _, Nat.zero_le _⟩ (fun r20 K21 H locs q22 HW => ?_)
            obtain ⟨rfl, rfl, b23⟩ := q22
            have b23 : vd_here K ≤ 30 := b23
            refine vd_callVi (As := [.int (nI (K 3 f)), .int (nI (vd_here K))]) (rest := []) CX HW (k_leadsTo l D ad K (K 3 f) (vd_here K) (by omega) (by omega)) mo_S_leadsTo wi_S_leadsTo ws_S_leadsTo (vr_31 CX HW) ml_D_82 rfl rfl ⟨Nat.le_of_ble_eq_true rfl, Nat.le_of_ble_eq_true rfl⟩ hl.1 (Nat.le_of_ble_eq_true rfl) d_D_merge_67 ⟨Nat.zero_le _, Nat.zero_le _⟩ (fun r24 K25 H locs q26 HW => ?_)
            obtain ⟨rfl, rfl⟩ := q26
            refine vd_ifb_eq (tgt := 79) hx hb d_D_merge_70 (by decide) (fun c_70 => ?_) (fun c_70 => ?_)
            · refine lv_aload_n hx hb d_D_merge_79 rfl (lv_at hl 1 rfl) ?_
              refine lv_iload_n hx hb d_D_merge_80 rfl (lv_at hl 0 rfl) ?_
              refine vd_callVi (As := [.int (nI (K 3 f))]) (rest := []) CX HW (k_mapart l D ad K (K 3 f) (by omega) (by omega) (by omega)) mo_D_mergeApart wi_D_mergeApart ws_D_mergeApart (vr_30 CX HW) ml_D_86 rfl rfl ⟨Nat.le_of_ble_eq_true rfl, Nat.le_of_ble_eq_true rfl⟩ hl.1 (Nat.le_of_ble_eq_true rfl) d_D_merge_81 ⟨Nat.zero_le _, Nat.zero_le _⟩ (fun r27 K28 H locs q29 HW => ?_)
              obtain ⟨eK28, rfl⟩ := q29
              exact RET _ _ _ _ _ _ d_D_merge_84 (by have h90 : ¬ (vd_there K (nI f) = false ∨ vd_here K = 0 ∨ K 41 0 ≠ 0) := (by rw [c_5]; simp [c_12, c_19]); have h91 : ¬ (vd_tidy K = false) := (by rw [c_28]; decide); have h92 : ¬ ((K 7 (vd_here K)).testBit (K 3 f) = true) := (by rw [c_53]; decide); have h93 : ¬ ((K 7 (K 3 f)).testBit (vd_here K) = true) := (by rw [c_70]; decide); unfold vd_meK vd_meR; rw [nI_clamp (show f < 2 ^ 31 by omega)]; rw [if_neg h90, if_neg h90, if_neg h91, if_neg h91, if_neg h92, if_neg h92, if_neg h93, if_neg h93]; subst_vars; exact ⟨rfl, rfl⟩) HW
            · refine lv_aload_n hx hb d_D_merge_73 rfl (lv_at hl 1 rfl) ?_
              refine lv_iload_n hx hb d_D_merge_74 rfl (lv_at hl 0 rfl) ?_
              refine vd_callVi (As := [.int (nI (K 3 f))]) (rest := []) CX HW (k_move l D ad K (K 3 f) (by omega)) mo_D_moveTo wi_D_moveTo ws_D_moveTo (vr_30 CX HW) ml_D_78 rfl rfl ⟨Nat.le_of_ble_eq_true rfl, Nat.le_of_ble_eq_true rfl⟩ hl.1 (Nat.le_of_ble_eq_true rfl) d_D_merge_75 ⟨Nat.zero_le _, Nat.zero_le _⟩ (fun r30 K31 H locs q32 HW => ?_)
              obtain ⟨eK31, rfl⟩ := q32
              exact RET _ _ _ _ _ _ d_D_merge_78 (by have h90 : ¬ (vd_there K (nI f) = false ∨ vd_here K = 0 ∨ K 41 0 ≠ 0) := (by rw [c_5]; simp [c_12, c_19]); have h91 : ¬ (vd_tidy K = false) := (by rw [c_28]; decide); have h92 : ¬ ((K 7 (vd_here K)).testBit (K 3 f) = true) := (by rw [c_53]; decide); have h93 : (K 7 (K 3 f)).testBit (vd_here K) = true := (by exact c_70); unfold vd_meK vd_meR; rw [nI_clamp (show f < 2 ^ 31 by omega)]; rw [if_neg h90, if_neg h90, if_neg h91, if_neg h91, if_neg h92, if_neg h92, if_pos h93, if_pos h93]; subst_vars; exact ⟨rfl, rfl⟩) HW
          · refine lv_iconst (v := (nI 0)) hx hb d_D_merge_56 (by decide) ?_
            exact RET _ _ _ _ _ _ d_D_merge_57 (by have h90 : ¬ (vd_there K (nI f) = false ∨ vd_here K = 0 ∨ K 41 0 ≠ 0) := (by rw [c_5]; simp [c_12, c_19]); have h91 : ¬ (vd_tidy K = false) := (by rw [c_28]; decide); have h92 : (K 7 (vd_here K)).testBit (K 3 f) = true := (by exact c_53); unfold vd_meK vd_meR; rw [nI_clamp (show f < 2 ^ 31 by omega)]; rw [if_neg h90, if_neg h90, if_neg h91, if_neg h91, if_pos h92, if_pos h92]; exact ⟨rfl, rfl⟩) HW
        · refine lv_bipush (v := (-4 : Int32)) hx hb d_D_merge_31 (by decide) ?_
          exact RET _ _ _ _ _ _ d_D_merge_33 (by have h90 : ¬ (vd_there K x = false ∨ vd_here K = 0 ∨ K 41 0 ≠ 0) := (by rw [c_5]; simp [c_12, c_19]); have h91 : vd_tidy K = false := (by exact c_28); unfold vd_meK vd_meR; rw [if_neg h90, if_neg h90, if_pos h91, if_pos h91]; exact ⟨rfl, rfl⟩) HW
      · refine lv_iconst (v := (-1 : Int32)) hx hb d_D_merge_22 (by decide) ?_
        exact RET _ _ _ _ _ _ d_D_merge_23 (by first | (have h90 : vd_there K x = false ∨ vd_here K = 0 ∨ K 41 0 ≠ 0 := (by exact Or.inr (Or.inr c_19)); unfold vd_meK vd_meR; rw [if_pos h90, if_pos h90]; exact ⟨rfl, rfl⟩) | (have h90 : vd_there K x = false ∨ vd_here K = 0 ∨ K 41 0 ≠ 0 := (by exact Or.inr (Or.inl c_12)); unfold vd_meK vd_meR; rw [if_pos h90, if_pos h90]; exact ⟨rfl, rfl⟩) | (have h90 : vd_there K x = false ∨ vd_here K = 0 ∨ K 41 0 ≠ 0 := (by exact Or.inl c_5); unfold vd_meK vd_meR; rw [if_pos h90, if_pos h90]; exact ⟨rfl, rfl⟩)) HW
set_option maxHeartbeats 1000000 in
set_option maxRecDepth 100000 in
theorem k_abort (l : Launch) (D : va_G) (ad : Nat → Nat) (K : KT)   : vd_MI l y_D_abort c_D_abort 1 (some .int) 3 66 D ad [.ref (ad 30)] K (fun (ans : Int32) (K' : KT) => K' = (if K 41 0 = 0 then K else vd_mv (vd_st (vd_st K 41 0 0) 42 0 0) (vd_here K)) ∧ ans = (if K 41 0 = 0 then (-1 : Int32) else nI 0)) := by
  refine vd_entI (by decide) (Nat.le_of_ble_eq_true rfl) (lv := [(0, .ref (ad 30))]) rfl ?_
  intro p e s m args below meth cd ls Q CX hl H locs HW RET
  have hx := CX.1
  have hb := CX.2.1
  refine lv_aload_n hx hb d_D_abort_0 rfl (lv_at hl 0 rfl) ?_
  refine vg_30_merging CX HW lk_D_47 d_D_abort_1 (fun b1 => ?_)
  have b1 : K 41 0 ≤ 30 := b1
  refine vd_if_ne (tgt := 9) hx hb d_D_abort_4 (by decide) (by omega) (fun c_4 => ?_) (fun c_4 => ?_)
  · refine lv_aload_n hx hb d_D_abort_9 rfl (lv_at hl 0 rfl) ?_
    refine lv_iconst (v := (nI 0)) hx hb d_D_abort_10 (by decide) ?_
    refine vt_30_merging CX HW (x := 0) (show 0 ≤ 30 by omega) lk_D_47 d_D_abort_11 (fun K2 H locs eK2 HW => ?_)
    refine lv_aload_n hx hb d_D_abort_14 rfl (lv_at hl 0 rfl) ?_
    refine lv_iconst (v := (nI 0)) hx hb d_D_abort_15 (by decide) ?_
    refine vt_30_clashes CX HW (x := 0) (show 0 ≤ 65535 by omega) lk_D_43 d_D_abort_16 (fun K3 H locs eK3 HW => ?_)
    refine lv_aload_n hx hb d_D_abort_19 rfl (lv_at hl 0 rfl) ?_
    refine lv_aload_n hx hb d_D_abort_20 rfl (lv_at hl 0 rfl) ?_
    refine vd_callVi (As := []) (rest := [.ref (ad 30)]) CX HW (k_here l D ad K3) mo_D_here wi_D_here ws_D_here (vr_30 CX HW) ml_D_61 rfl rfl ⟨Nat.le_of_ble_eq_true rfl, Nat.le_of_ble_eq_true rfl⟩ hl.1 (Nat.le_of_ble_eq_true rfl) d_D_abort_21 ⟨Nat.zero_le _, Nat.zero_le _⟩ (fun r4 K5 H locs q6 HW => ?_)
    obtain ⟨rfl, rfl, b7⟩ := q6
    have b7 : vd_here K3 ≤ 30 := b7
    refine vd_callVi (As := [.int (nI (vd_here K3))]) (rest := []) CX HW (k_move l D ad K3 (vd_here K3) (by omega)) mo_D_moveTo wi_D_moveTo ws_D_moveTo (vr_30 CX HW) ml_D_78 rfl rfl ⟨Nat.le_of_ble_eq_true rfl, Nat.le_of_ble_eq_true rfl⟩ hl.1 (Nat.le_of_ble_eq_true rfl) d_D_abort_24 ⟨Nat.zero_le _, Nat.zero_le _⟩ (fun r8 K9 H locs q10 HW => ?_)
    obtain ⟨eK9, rfl⟩ := q10
    refine lv_pop hx hb d_D_abort_27 rfl ?_
    refine lv_iconst (v := (nI 0)) hx hb d_D_abort_28 (by decide) ?_
    exact RET _ _ _ _ _ _ d_D_abort_29 (by have h90 : ¬ (K 41 0 = 0) := (by exact c_4); rw [if_neg h90, if_neg h90]; subst_vars; exact ⟨rfl, rfl⟩) HW
  · refine lv_iconst (v := (-1 : Int32)) hx hb d_D_abort_7 (by decide) ?_
    exact RET _ _ _ _ _ _ d_D_abort_8 (by have h90 : K 41 0 = 0 := (by exact c_4); rw [if_pos h90, if_pos h90]; exact ⟨rfl, rfl⟩) HW
set_option maxHeartbeats 1000000 in
set_option maxRecDepth 100000 in
theorem k_pick (l : Launch) (D : va_G) (ad : Nat → Nat) (K : KT) (x : Int32) (h45 : K 45 0 ≤ 4 * K 43 0) (h46 : K 46 0 ≤ K 43 0) : vd_MI l y_D_pick c_D_pick 2 (some .int) 5 122 D ad [.ref (ad 30), .int x] K (fun (ans : Int32) (K' : KT) => K' = vd_piK K x ∧ ans = (vd_piR K x)) := by
  refine vd_entI (by decide) (Nat.le_of_ble_eq_true rfl) (lv := [(0, .ref (ad 30)), (1, .int x)]) rfl ?_
  intro p e s m args below meth cd ls Q CX hl H locs HW RET
  have hx := CX.1
  have hb := CX.2.1
  refine lv_aload_n hx hb d_D_pick_0 rfl (lv_at hl 0 rfl) ?_
  refine vg_30_store CX HW lk_D_10 d_D_pick_1 ?_
  refine lv_iload_n hx hb d_D_pick_4 rfl (lv_at hl 1 rfl) ?_
  refine vd_callVi (As := [.int x]) (rest := []) CX HW (k_holds l D ad K x) mo_S_holds wi_S_holds ws_S_holds (vr_31 CX HW) ml_D_89 rfl rfl ⟨Nat.le_of_ble_eq_true rfl, Nat.le_of_ble_eq_true rfl⟩ hl.1 (Nat.le_of_ble_eq_true rfl) d_D_pick_5 ⟨Nat.zero_le _, Nat.zero_le _⟩ (fun r1 K2 H locs q3 HW => ?_)
  obtain ⟨rfl, rfl⟩ := q3
  refine vd_ifb_eq (tgt := 25) hx hb d_D_pick_8 (by decide) (fun c_8 => ?_) (fun c_8 => ?_)
  · refine lv_iconst (v := (-1 : Int32)) hx hb d_D_pick_25 (by decide) ?_
    exact RET _ _ _ _ _ _ d_D_pick_26 (by first | (have h90 : vd_hol K x = false ∨ vd_here K = 0 ∨ K 41 0 ≠ 0 := (by exact Or.inr (Or.inr c_22)); unfold vd_piK vd_piR; rw [if_pos h90, if_pos h90]; exact ⟨rfl, rfl⟩) | (have h90 : vd_hol K x = false ∨ vd_here K = 0 ∨ K 41 0 ≠ 0 := (by exact Or.inr (Or.inl c_15)); unfold vd_piK vd_piR; rw [if_pos h90, if_pos h90]; exact ⟨rfl, rfl⟩) | (have h90 : vd_hol K x = false ∨ vd_here K = 0 ∨ K 41 0 ≠ 0 := (by exact Or.inl c_8); unfold vd_piK vd_piR; rw [if_pos h90, if_pos h90]; exact ⟨rfl, rfl⟩)) HW
  · refine lv_aload_n hx hb d_D_pick_11 rfl (lv_at hl 0 rfl) ?_
    refine vd_callVi (As := []) (rest := []) CX HW (k_here l D ad K) mo_D_here wi_D_here ws_D_here (vr_30 CX HW) ml_D_61 rfl rfl ⟨Nat.le_of_ble_eq_true rfl, Nat.le_of_ble_eq_true rfl⟩ hl.1 (Nat.le_of_ble_eq_true rfl) d_D_pick_12 ⟨Nat.zero_le _, Nat.zero_le _⟩ (fun r4 K5 H locs q6 HW => ?_)
    obtain ⟨rfl, rfl, b7⟩ := q6
    have b7 : vd_here K ≤ 30 := b7
    refine vd_if_eq (tgt := 25) hx hb d_D_pick_15 (by decide) (by omega) (fun c_15 => ?_) (fun c_15 => ?_)
    · refine lv_iconst (v := (-1 : Int32)) hx hb d_D_pick_25 (by decide) ?_
      exact RET _ _ _ _ _ _ d_D_pick_26 (by first | (have h90 : vd_hol K x = false ∨ vd_here K = 0 ∨ K 41 0 ≠ 0 := (by exact Or.inr (Or.inr c_22)); unfold vd_piK vd_piR; rw [if_pos h90, if_pos h90]; exact ⟨rfl, rfl⟩) | (have h90 : vd_hol K x = false ∨ vd_here K = 0 ∨ K 41 0 ≠ 0 := (by exact Or.inr (Or.inl c_15)); unfold vd_piK vd_piR; rw [if_pos h90, if_pos h90]; exact ⟨rfl, rfl⟩) | (have h90 : vd_hol K x = false ∨ vd_here K = 0 ∨ K 41 0 ≠ 0 := (by exact Or.inl c_8); unfold vd_piK vd_piR; rw [if_pos h90, if_pos h90]; exact ⟨rfl, rfl⟩)) HW
    · refine lv_aload_n hx hb d_D_pick_18 rfl (lv_at hl 0 rfl) ?_
      refine vg_30_merging CX HW lk_D_47 d_D_pick_19 (fun b8 => ?_)
      have b8 : K 41 0 ≤ 30 := b8
      refine vd_if_eq (tgt := 27) hx hb d_D_pick_22 (by decide) (by omega) (fun c_22 => ?_) (fun c_22 => ?_)
      · refine lv_aload_n hx hb d_D_pick_27 rfl (lv_at hl 0 rfl) ?_
        refine vd_callVi (As := []) (rest := []) CX HW (k_tidy l D ad K) mo_D_isTidy wi_D_isTidy ws_D_isTidy (vr_30 CX HW) ml_D_75 rfl rfl ⟨Nat.le_of_ble_eq_true rfl, Nat.le_of_ble_eq_true rfl⟩ hl.1 (Nat.le_of_ble_eq_true rfl) d_D_pick_28 ⟨Nat.zero_le _, Nat.zero_le _⟩ (fun r9 K10 H locs q11 HW => ?_)
        obtain ⟨rfl, rfl⟩ := q11
        refine vd_ifb_ne (tgt := 37) hx hb d_D_pick_31 (by decide) (fun c_31 => ?_) (fun c_31 => ?_)
        · obtain ⟨f, hf1, hf2, rfl, hf3⟩ := vd_hol_t c_8
          refine lv_aload_n hx hb d_D_pick_37 rfl (lv_at hl 0 rfl) ?_
          refine lv_iload_n hx hb d_D_pick_38 rfl (lv_at hl 1 rfl) ?_
          refine lv_aload_n hx hb d_D_pick_39 rfl (lv_at hl 0 rfl) ?_
          refine vg_30_store CX HW lk_D_10 d_D_pick_40 ?_
          refine lv_iload_n hx hb d_D_pick_43 rfl (lv_at hl 1 rfl) ?_
          refine lv_iconst (v := (nI 0)) hx hb d_D_pick_44 (by decide) ?_
          refine vd_callVi (As := [.int (nI f), .int (nI 0)]) (rest := [.int (nI f), .ref (ad 30)]) CX HW (k_parentOf l D ad K f 0 (by omega) (by omega)) mo_S_parentOf wi_S_parentOf ws_S_parentOf (vr_31 CX HW) ml_D_92 rfl rfl ⟨Nat.le_of_ble_eq_true rfl, Nat.le_of_ble_eq_true rfl⟩ hl.1 (Nat.le_of_ble_eq_true rfl) d_D_pick_45 ⟨Nat.zero_le _, Nat.zero_le _⟩ (fun r12 K13 H locs q14 HW => ?_)
          obtain ⟨rfl, rfl, b15⟩ := q14
          have b15 : (if 0 = 0 then K 5 f else K 6 f) ≤ 30 := b15
          refine vd_callVi (As := [.int (nI f), .int (nI (if 0 = 0 then K 5 f else K 6 f))]) (rest := []) CX HW (k_mix l D ad K f (if 0 = 0 then K 5 f else K 6 f) (by omega) (by omega)) mo_D_mixHereWith wi_D_mixHereWith ws_D_mixHereWith (vr_30 CX HW) ml_D_96 rfl rfl ⟨Nat.le_of_ble_eq_true rfl, Nat.le_of_ble_eq_true rfl⟩ hl.1 (Nat.le_of_ble_eq_true rfl) d_D_pick_48 ⟨Nat.zero_le _, Nat.zero_le _⟩ (fun r16 K17 H locs q18 HW => ?_)
          obtain ⟨eK17, rfl, b19⟩ := q18
          have b19 : vd_mk (fun zz => vd_clash K f (if 0 = 0 then K 5 f else K 6 f) zz) 16 ≤ 65535 := b19
          have hmz : K17 = vd_mix K f (K 5 f) := eK17
          have f43 : K17 43 0 = K 43 0 := by rw [hmz]; rfl
          have f45 : K17 45 0 = K 45 0 := by rw [hmz]; rfl
          have f46 : K17 46 0 = K 46 0 := by rw [hmz]; rfl
          have fh : vd_here K17 = vd_here K := by rw [hmz]; rfl
          refine vd_if_eq (tgt := 57) hx hb d_D_pick_51 (by decide) (by omega) (fun c_51 => ?_) (fun c_51 => ?_)
          · refine lv_aload_n hx hb d_D_pick_57 rfl (lv_at hl 0 rfl) ?_
            refine lv_aload_n hx hb d_D_pick_58 rfl (lv_at hl 0 rfl) ?_
            refine vg_30_mixture CX HW lk_D_23 d_D_pick_59 ?_
            refine vd_callVi (As := [.ref (ad 2)]) (rest := []) CX HW (k_ash_2 l D ad K17) mo_D_isAsHere wi_D_isAsHere ws_D_isAsHere (vr_30 CX HW) ml_D_50 rfl rfl ⟨Nat.le_of_ble_eq_true rfl, Nat.le_of_ble_eq_true rfl⟩ hl.1 (Nat.le_of_ble_eq_true rfl) d_D_pick_62 ⟨Nat.zero_le _, Nat.zero_le _⟩ (fun r20 K21 H locs q22 HW => ?_)
            obtain ⟨rfl, rfl⟩ := q22
            refine vd_ifb_eq (tgt := 71) hx hb d_D_pick_65 (by decide) (fun c_65 => ?_) (fun c_65 => ?_)
            · refine lv_aload_n hx hb d_D_pick_71 rfl (lv_at hl 0 rfl) ?_
              refine vg_30_store CX HW lk_D_10 d_D_pick_72 ?_
              refine vd_callVi (As := []) (rest := []) CX HW (k_isFull l D ad K17) mo_S_isFull wi_S_isFull ws_S_isFull (vr_31 CX HW) ml_D_54 rfl rfl ⟨Nat.le_of_ble_eq_true rfl, Nat.le_of_ble_eq_true rfl⟩ hl.1 (Nat.le_of_ble_eq_true rfl) d_D_pick_75 ⟨Nat.zero_le _, Nat.zero_le _⟩ (fun r23 K24 H locs q25 HW => ?_)
              obtain ⟨rfl, rfl⟩ := q25
              refine vd_ifb_eq (tgt := 84) hx hb d_D_pick_78 (by decide) (fun c_78 => ?_) (fun c_78 => ?_)
              · have c_m := of_decide_eq_false c_78
                refine lv_aload_n hx hb d_D_pick_84 rfl (lv_at hl 0 rfl) ?_
                refine lv_aload_n hx hb d_D_pick_85 rfl (lv_at hl 0 rfl) ?_
                refine vg_30_store CX HW lk_D_10 d_D_pick_86 ?_
                refine lv_aload_n hx hb d_D_pick_89 rfl (lv_at hl 0 rfl) ?_
                refine vg_30_mixture CX HW lk_D_23 d_D_pick_90 ?_
                refine lv_aload_n hx hb d_D_pick_93 rfl (lv_at hl 0 rfl) ?_
                refine vd_callVi (As := []) (rest := [.ref (ad 2), .ref (ad 31), .ref (ad 30)]) CX HW (k_here l D ad K17) mo_D_here wi_D_here ws_D_here (vr_30 CX HW) ml_D_61 rfl rfl ⟨Nat.le_of_ble_eq_true rfl, Nat.le_of_ble_eq_true rfl⟩ hl.1 (Nat.le_of_ble_eq_true rfl) d_D_pick_94 ⟨Nat.zero_le _, Nat.zero_le _⟩ (fun r26 K27 H locs q28 HW => ?_)
                obtain ⟨rfl, rfl, b29⟩ := q28
                have b29 : vd_here K17 ≤ 30 := b29
                refine lv_iconst (v := (nI 0)) hx hb d_D_pick_97 (by decide) ?_
                refine vd_callVi (As := [.ref (ad 2), .int (nI (vd_here K17)), .int (nI 0)]) (rest := [.ref (ad 30)]) CX HW (k_make_2 l D ad K17 (vd_here K17) 0 (by omega) (by omega) (by omega) (by omega) (by omega)) mo_S_make wi_S_make ws_S_make (vr_31 CX HW) ml_D_65 rfl rfl ⟨Nat.le_of_ble_eq_true rfl, Nat.le_of_ble_eq_true rfl⟩ hl.1 (Nat.le_of_ble_eq_true rfl) d_D_pick_98 ⟨Nat.zero_le _, Nat.zero_le _⟩ (fun r30 K31 H locs q32 HW => ?_)
                obtain ⟨eK31, rfl⟩ := q32
                refine vd_callVi (As := [.int (nI (K17 43 0 + 1))]) (rest := []) CX HW (k_move l D ad K31 (K17 43 0 + 1) (by omega)) mo_D_moveTo wi_D_moveTo ws_D_moveTo (vr_30 CX HW) ml_D_78 rfl rfl ⟨Nat.le_of_ble_eq_true rfl, Nat.le_of_ble_eq_true rfl⟩ hl.1 (Nat.le_of_ble_eq_true rfl) d_D_pick_101 ⟨Nat.zero_le _, Nat.zero_le _⟩ (fun r33 K34 H locs q35 HW => ?_)
                obtain ⟨eK34, rfl⟩ := q35
                exact RET _ _ _ _ _ _ d_D_pick_104 (by have h90 : ¬ (vd_hol K (nI f) = false ∨ vd_here K = 0 ∨ K 41 0 ≠ 0) := (by rw [c_8]; simp [c_15, c_22]); have h91 : ¬ (vd_tidy K = false) := (by rw [c_31]; decide); have h92 : ¬ (vd_mask K f (K 5 f) ≠ 0) := (by exact fun z => z c_51); have h93 : ¬ (vd_ash (vd_mix K f (K 5 f)) 2 = true) := (by rw [← hmz, c_65]; decide); have h94 : ¬ (30 ≤ K 43 0) := (by omega); unfold vd_piK vd_piR; rw [nI_clamp (show f < 2 ^ 31 by omega)]; rw [if_neg h90, if_neg h90, if_neg h91, if_neg h91, if_neg h92, if_neg h92, if_neg h93, if_neg h93, if_neg h94, if_neg h94]; rw [fh] at eK31; rw [f43] at eK34 ⊢; refine ⟨?_, rfl⟩; rw [eK34, eK31, hmz]) HW
              · refine lv_bipush (v := (-2 : Int32)) hx hb d_D_pick_81 (by decide) ?_
                exact RET _ _ _ _ _ _ d_D_pick_83 (by have h90 : ¬ (vd_hol K (nI f) = false ∨ vd_here K = 0 ∨ K 41 0 ≠ 0) := (by rw [c_8]; simp [c_15, c_22]); have h91 : ¬ (vd_tidy K = false) := (by rw [c_31]; decide); have h92 : ¬ (vd_mask K f (K 5 f) ≠ 0) := (by exact fun z => z c_51); have h93 : ¬ (vd_ash (vd_mix K f (K 5 f)) 2 = true) := (by rw [← hmz, c_65]; decide); have h94 : 30 ≤ K 43 0 := (by have c_m := of_decide_eq_true c_78; omega); unfold vd_piK vd_piR; rw [nI_clamp (show f < 2 ^ 31 by omega)]; rw [if_neg h90, if_neg h90, if_neg h91, if_neg h91, if_neg h92, if_neg h92, if_neg h93, if_neg h93, if_pos h94, if_pos h94]; exact ⟨hmz, rfl⟩) HW
            · refine lv_bipush (v := (-3 : Int32)) hx hb d_D_pick_68 (by decide) ?_
              exact RET _ _ _ _ _ _ d_D_pick_70 (by have h90 : ¬ (vd_hol K (nI f) = false ∨ vd_here K = 0 ∨ K 41 0 ≠ 0) := (by rw [c_8]; simp [c_15, c_22]); have h91 : ¬ (vd_tidy K = false) := (by rw [c_31]; decide); have h92 : ¬ (vd_mask K f (K 5 f) ≠ 0) := (by exact fun z => z c_51); have h93 : vd_ash (vd_mix K f (K 5 f)) 2 = true := (by rw [← hmz]; exact c_65); unfold vd_piK vd_piR; rw [nI_clamp (show f < 2 ^ 31 by omega)]; rw [if_neg h90, if_neg h90, if_neg h91, if_neg h91, if_neg h92, if_neg h92, if_pos h93, if_pos h93]; exact ⟨hmz, rfl⟩) HW
          · refine lv_bipush (v := (-5 : Int32)) hx hb d_D_pick_54 (by decide) ?_
            exact RET _ _ _ _ _ _ d_D_pick_56 (by have h90 : ¬ (vd_hol K (nI f) = false ∨ vd_here K = 0 ∨ K 41 0 ≠ 0) := (by rw [c_8]; simp [c_15, c_22]); have h91 : ¬ (vd_tidy K = false) := (by rw [c_31]; decide); have h92 : vd_mask K f (K 5 f) ≠ 0 := (by exact c_51); unfold vd_piK vd_piR; rw [nI_clamp (show f < 2 ^ 31 by omega)]; rw [if_neg h90, if_neg h90, if_neg h91, if_neg h91, if_pos h92, if_pos h92]; exact ⟨hmz, rfl⟩) HW
        · refine lv_bipush (v := (-4 : Int32)) hx hb d_D_pick_34 (by decide) ?_
          exact RET _ _ _ _ _ _ d_D_pick_36 (by have h90 : ¬ (vd_hol K x = false ∨ vd_here K = 0 ∨ K 41 0 ≠ 0) := (by rw [c_8]; simp [c_15, c_22]); have h91 : vd_tidy K = false := (by exact c_31); unfold vd_piK vd_piR; rw [if_neg h90, if_neg h90, if_pos h91, if_pos h91]; exact ⟨rfl, rfl⟩) HW
      · refine lv_iconst (v := (-1 : Int32)) hx hb d_D_pick_25 (by decide) ?_
        exact RET _ _ _ _ _ _ d_D_pick_26 (by first | (have h90 : vd_hol K x = false ∨ vd_here K = 0 ∨ K 41 0 ≠ 0 := (by exact Or.inr (Or.inr c_22)); unfold vd_piK vd_piR; rw [if_pos h90, if_pos h90]; exact ⟨rfl, rfl⟩) | (have h90 : vd_hol K x = false ∨ vd_here K = 0 ∨ K 41 0 ≠ 0 := (by exact Or.inr (Or.inl c_15)); unfold vd_piK vd_piR; rw [if_pos h90, if_pos h90]; exact ⟨rfl, rfl⟩) | (have h90 : vd_hol K x = false ∨ vd_here K = 0 ∨ K 41 0 ≠ 0 := (by exact Or.inl c_8); unfold vd_piK vd_piR; rw [if_pos h90, if_pos h90]; exact ⟨rfl, rfl⟩)) HW
set_option maxHeartbeats 1000000 in
set_option maxRecDepth 100000 in
theorem k_reset (l : Launch) (D : va_G) (ad : Nat → Nat) (K : KT) (x : Int32)  : vd_MI l y_D_reset c_D_reset 2 (some .int) 3 66 D ad [.ref (ad 30), .int x] K (fun (ans : Int32) (K' : KT) => K' = (if vd_hol K x = false ∨ K 41 0 ≠ 0 then K else vd_mv K x.toNatClampNeg) ∧ ans = (if vd_hol K x = false ∨ K 41 0 ≠ 0 then (-1 : Int32) else nI 0)) := by
  refine vd_entI (by decide) (Nat.le_of_ble_eq_true rfl) (lv := [(0, .ref (ad 30)), (1, .int x)]) rfl ?_
  intro p e s m args below meth cd ls Q CX hl H locs HW RET
  have hx := CX.1
  have hb := CX.2.1
  refine lv_aload_n hx hb d_D_reset_0 rfl (lv_at hl 0 rfl) ?_
  refine vg_30_store CX HW lk_D_10 d_D_reset_1 ?_
  refine lv_iload_n hx hb d_D_reset_4 rfl (lv_at hl 1 rfl) ?_
  refine vd_callVi (As := [.int x]) (rest := []) CX HW (k_holds l D ad K x) mo_S_holds wi_S_holds ws_S_holds (vr_31 CX HW) ml_D_89 rfl rfl ⟨Nat.le_of_ble_eq_true rfl, Nat.le_of_ble_eq_true rfl⟩ hl.1 (Nat.le_of_ble_eq_true rfl) d_D_reset_5 ⟨Nat.zero_le _, Nat.zero_le _⟩ (fun r1 K2 H locs q3 HW => ?_)
  obtain ⟨rfl, rfl⟩ := q3
  refine vd_ifb_eq (tgt := 18) hx hb d_D_reset_8 (by decide) (fun c_8 => ?_) (fun c_8 => ?_)
  · refine lv_iconst (v := (-1 : Int32)) hx hb d_D_reset_18 (by decide) ?_
    exact RET _ _ _ _ _ _ d_D_reset_19 (by first | (have h90 : vd_hol K x = false ∨ K 41 0 ≠ 0 := (by exact Or.inr c_15); rw [if_pos h90, if_pos h90]; exact ⟨rfl, rfl⟩) | (have h90 : vd_hol K x = false ∨ K 41 0 ≠ 0 := (by exact Or.inl c_8); rw [if_pos h90, if_pos h90]; exact ⟨rfl, rfl⟩)) HW
  · refine lv_aload_n hx hb d_D_reset_11 rfl (lv_at hl 0 rfl) ?_
    refine vg_30_merging CX HW lk_D_47 d_D_reset_12 (fun b4 => ?_)
    have b4 : K 41 0 ≤ 30 := b4
    refine vd_if_eq (tgt := 20) hx hb d_D_reset_15 (by decide) (by omega) (fun c_15 => ?_) (fun c_15 => ?_)
    · obtain ⟨f, hf1, hf2, rfl, hf3⟩ := vd_hol_t c_8
      refine lv_aload_n hx hb d_D_reset_20 rfl (lv_at hl 0 rfl) ?_
      refine lv_iload_n hx hb d_D_reset_21 rfl (lv_at hl 1 rfl) ?_
      refine vd_callVi (As := [.int (nI f)]) (rest := []) CX HW (k_move l D ad K f (by omega)) mo_D_moveTo wi_D_moveTo ws_D_moveTo (vr_30 CX HW) ml_D_78 rfl rfl ⟨Nat.le_of_ble_eq_true rfl, Nat.le_of_ble_eq_true rfl⟩ hl.1 (Nat.le_of_ble_eq_true rfl) d_D_reset_22 ⟨Nat.zero_le _, Nat.zero_le _⟩ (fun r5 K6 H locs q7 HW => ?_)
      obtain ⟨eK6, rfl⟩ := q7
      refine lv_pop hx hb d_D_reset_25 rfl ?_
      refine lv_iconst (v := (nI 0)) hx hb d_D_reset_26 (by decide) ?_
      exact RET _ _ _ _ _ _ d_D_reset_27 (by have h90 : ¬ (vd_hol K (nI f) = false ∨ K 41 0 ≠ 0) := (by rw [c_8]; simp [c_15]); rw [nI_clamp (show f < 2 ^ 31 by omega)]; rw [if_neg h90, if_neg h90]; subst_vars; exact ⟨rfl, rfl⟩) HW
    · refine lv_iconst (v := (-1 : Int32)) hx hb d_D_reset_18 (by decide) ?_
      exact RET _ _ _ _ _ _ d_D_reset_19 (by first | (have h90 : vd_hol K x = false ∨ K 41 0 ≠ 0 := (by exact Or.inr c_15); rw [if_pos h90, if_pos h90]; exact ⟨rfl, rfl⟩) | (have h90 : vd_hol K x = false ∨ K 41 0 ≠ 0 := (by exact Or.inl c_8); rw [if_pos h90, if_pos h90]; exact ⟨rfl, rfl⟩)) HW
set_option maxHeartbeats 1000000 in
set_option maxRecDepth 100000 in
theorem k_remove (l : Launch) (D : va_G) (ad : Nat → Nat) (K : KT) (x : Int32)  : vd_MI l y_D_remove c_D_remove 2 (some .int) 2 41 D ad [.ref (ad 30), .int x] K (fun (ans : Int32) (K' : KT) => K' = (if vd_there K x = false ∨ x.toNatClampNeg = K 40 0 then K else vd_st K 3 x.toNatClampNeg 0) ∧ ans = (if vd_there K x = false ∨ x.toNatClampNeg = K 40 0 then (-1 : Int32) else nI 0)) := by
  refine vd_entI (by decide) (Nat.le_of_ble_eq_true rfl) (lv := [(0, .ref (ad 30)), (1, .int x)]) rfl ?_
  intro p e s m args below meth cd ls Q CX hl H locs HW RET
  have hx := CX.1
  have hb := CX.2.1
  refine lv_aload_n hx hb d_D_remove_0 rfl (lv_at hl 0 rfl) ?_
  refine lv_iload_n hx hb d_D_remove_1 rfl (lv_at hl 1 rfl) ?_
  refine vd_callVi (As := [.int x]) (rest := []) CX HW (k_isThere l D ad K x) mo_D_isThere wi_D_isThere ws_D_isThere (vr_30 CX HW) ml_D_72 rfl rfl ⟨Nat.le_of_ble_eq_true rfl, Nat.le_of_ble_eq_true rfl⟩ hl.1 (Nat.le_of_ble_eq_true rfl) d_D_remove_2 ⟨Nat.zero_le _, Nat.zero_le _⟩ (fun r1 K2 H locs q3 HW => ?_)
  obtain ⟨rfl, rfl⟩ := q3
  refine vd_ifb_eq (tgt := 16) hx hb d_D_remove_5 (by decide) (fun c_5 => ?_) (fun c_5 => ?_)
  · refine lv_iconst (v := (-1 : Int32)) hx hb d_D_remove_16 (by decide) ?_
    exact RET _ _ _ _ _ _ d_D_remove_17 (by first | (have h90 : vd_there K (nI f) = false ∨ f = K 40 0 := (by exact Or.inr c_13); rw [nI_clamp (show f < 2 ^ 31 by omega)]; rw [if_pos h90, if_pos h90]; exact ⟨rfl, rfl⟩) | (have h90 : vd_there K x = false ∨ x.toNatClampNeg = K 40 0 := (by exact Or.inl c_5); rw [if_pos h90, if_pos h90]; exact ⟨rfl, rfl⟩)) HW
  · obtain ⟨f, hf1, hf2, rfl, hf3⟩ := vd_there_t c_5
    refine lv_iload_n hx hb d_D_remove_8 rfl (lv_at hl 1 rfl) ?_
    refine lv_aload_n hx hb d_D_remove_9 rfl (lv_at hl 0 rfl) ?_
    refine vg_30_head CX HW lk_D_58 d_D_remove_10 (fun b4 => ?_)
    have b4 : K 40 0 ≤ 5 := b4
    refine vd_icmp_ne (tgt := 18) hx hb d_D_remove_13 (by decide) (by omega) (by omega) (fun c_13 => ?_) (fun c_13 => ?_)
    · refine lv_aload_n hx hb d_D_remove_18 rfl (lv_at hl 0 rfl) ?_
      refine vg_30_tips CX HW lk_D_26 d_D_remove_19 ?_
      refine lv_iload_n hx hb d_D_remove_22 rfl (lv_at hl 1 rfl) ?_
      refine lv_iconst (v := (nI 0)) hx hb d_D_remove_23 (by decide) ?_
      refine vd_iast CX HW (j := 3) (i := f) (x := 0) rfl (show f < 6 by omega) (show 0 ≤ 30 by omega) d_D_remove_24 (fun K5 H locs eK5 HW => ?_)
      refine lv_iconst (v := (nI 0)) hx hb d_D_remove_25 (by decide) ?_
      exact RET _ _ _ _ _ _ d_D_remove_26 (by have h90 : ¬ (vd_there K (nI f) = false ∨ f = K 40 0) := (by rw [c_5]; simp [c_13]); rw [nI_clamp (show f < 2 ^ 31 by omega)]; rw [if_neg h90, if_neg h90]; subst_vars; exact ⟨rfl, rfl⟩) HW
    · refine lv_iconst (v := (-1 : Int32)) hx hb d_D_remove_16 (by decide) ?_
      exact RET _ _ _ _ _ _ d_D_remove_17 (by first | (have h90 : vd_there K (nI f) = false ∨ f = K 40 0 := (by exact Or.inr c_13); rw [nI_clamp (show f < 2 ^ 31 by omega)]; rw [if_pos h90, if_pos h90]; exact ⟨rfl, rfl⟩) | (have h90 : vd_there K x = false ∨ x.toNatClampNeg = K 40 0 := (by exact Or.inl c_5); rw [if_pos h90, if_pos h90]; exact ⟨rfl, rfl⟩)) HW
set_option maxHeartbeats 1000000 in
set_option maxRecDepth 100000 in
theorem k_sweep (l : Launch) (D : va_G) (ad : Nat → Nat) (K : KT)   : vd_MI l y_D_sweep c_D_sweep 4 (some .int) 3 68 D ad [.ref (ad 30)] K (fun (ans : Int32) (K' : KT) => K' = vd_swK K ∧ ans = (nI (vd_size K) - nI (vd_size (vd_swK K)))) := by
  refine vd_entI (by decide) (Nat.le_of_ble_eq_true rfl) (lv := [(0, .ref (ad 30))]) rfl ?_
  intro p e s m args below meth cd ls Q CX hl H locs HW RET
  have hx := CX.1
  have hb := CX.2.1
  refine lv_aload_n hx hb d_D_sweep_0 rfl (lv_at hl 0 rfl) ?_
  refine vg_30_store CX HW lk_D_10 d_D_sweep_1 ?_
  refine vd_callVi (As := []) (rest := []) CX HW (k_size l D ad K) mo_S_size wi_S_size ws_S_size (vr_31 CX HW) ml_D_99 rfl rfl ⟨Nat.le_of_ble_eq_true rfl, Nat.le_of_ble_eq_true rfl⟩ hl.1 (Nat.le_of_ble_eq_true rfl) d_D_sweep_4 ⟨Nat.zero_le _, Nat.zero_le _⟩ (fun r1 K2 H locs q3 HW => ?_)
  obtain ⟨rfl, rfl, b4⟩ := q3
  have b4 : vd_size K ≤ 11000 := b4
  refine lv_istore_n (lv' := [(1, .int (nI (vd_size K))), (0, .ref (ad 30))]) hx hb d_D_sweep_7 rfl hl (by decide) rfl (fun ls hl => ?_)
  refine lv_aload_n hx hb d_D_sweep_8 rfl (lv_at hl 1 rfl) ?_
  refine vg_30_store CX HW lk_D_10 d_D_sweep_9 ?_
  refine lv_aload_n hx hb d_D_sweep_12 rfl (lv_at hl 1 rfl) ?_
  refine vg_30_merging CX HW lk_D_47 d_D_sweep_13 (fun b5 => ?_)
  have b5 : K 41 0 ≤ 30 := b5
  refine vd_callVi (As := [.int (nI (K 41 0))]) (rest := []) CX HW (k_ancOf l D ad K (K 41 0) (by omega)) mo_S_ancestorsOf wi_S_ancestorsOf ws_S_ancestorsOf (vr_31 CX HW) ml_D_102 rfl rfl ⟨Nat.le_of_ble_eq_true rfl, Nat.le_of_ble_eq_true rfl⟩ hl.1 (Nat.le_of_ble_eq_true rfl) d_D_sweep_16 ⟨Nat.zero_le _, Nat.zero_le _⟩ (fun r6 K7 H locs q8 HW => ?_)
  obtain ⟨rfl, rfl, b9⟩ := q8
  have b9 : K 7 (K 41 0) ≤ 2147483647 := b9
  refine lv_istore_n (lv' := [(2, .int (nI (K 7 (K 41 0)))), (1, .int (nI (vd_size K))), (0, .ref (ad 30))]) hx hb d_D_sweep_19 rfl hl (by decide) rfl (fun ls hl => ?_)
  refine lv_iconst (v := (nI 0)) hx hb d_D_sweep_20 (by decide) ?_
  refine lv_istore_n (lv' := [(3, .int (nI 0)), (2, .int (nI (K 7 (K 41 0)))), (1, .int (nI (vd_size K))), (0, .ref (ad 30))]) hx hb d_D_sweep_21 rfl hl (by decide) rfl (fun ls hl => ?_)
  have loop22 : ∀ (n : Nat) (i : Nat), (i ≤ 6) → (vd_need K i ≤ 2147483647) → (6 < i + n) → ∀ (H : Heap) (locs : List Loc) (ls : Array Slot), vd_WS D ad s K H locs → lv_has ls 4 [(0, .ref (ad 30)), (1, .int (nI (vd_size K))), (2, .int (nI (vd_need K i))), (3, .int (nI i))] → W p l e (vd_R 3 68) s m args below meth cd H locs 0 0 Q (F0 m 22 ls []) := by
    intro n
    induction n with
    | zero => intro i hi hn hm; exfalso; omega
    | succ n ih22 =>
      intro i hi hn hm H locs ls HW hl
      refine lv_iload_n hx hb d_D_sweep_22 rfl (lv_at hl 3 rfl) ?_
      refine lv_bipush (v := (nI 6)) hx hb d_D_sweep_23 (by decide) ?_
      refine vd_icmp_ge (tgt := 50) hx hb d_D_sweep_25 (by decide) (by omega) (by omega) (fun c_25 => ?_) (fun c_25 => ?_)
      · have e6 : i = 6 := by omega
        rw [e6] at hn hl
        refine lv_aload_n hx hb d_D_sweep_50 rfl (lv_at hl 0 rfl) ?_
        refine vg_30_store CX HW lk_D_10 d_D_sweep_51 ?_
        refine lv_iload_n hx hb d_D_sweep_54 rfl (lv_at hl 2 rfl) ?_
        refine vd_callVv (As := [.int (nI (vd_need K 6))]) (rest := []) CX HW (k_ko l D ad K (vd_need K 6) (by omega)) mo_S_keepOnly wi_S_keepOnly ws_S_keepOnly (vr_31 CX HW) ml_D_105 rfl rfl ⟨Nat.le_of_ble_eq_true rfl, Nat.le_of_ble_eq_true rfl⟩ hl.1 (Nat.le_of_ble_eq_true rfl) d_D_sweep_55 ⟨Nat.zero_le _, Nat.zero_le _⟩ (fun K11 H locs q12 HW => ?_)
        have eK11 := q12
        refine lv_iconst (v := (nI 0)) hx hb d_D_sweep_58 (by decide) ?_
        refine lv_istore_n (lv' := [(3, .int (nI 0)), (0, .ref (ad 30)), (1, .int (nI (vd_size K))), (2, .int (nI (vd_need K 6)))]) hx hb d_D_sweep_59 rfl hl (by decide) rfl (fun ls hl => ?_)
        have loop60 : ∀ (n : Nat) (i : Nat) (Kl : KT), (i ≤ 16) → (Kl = vd_bks K11 1 0 i) → (16 < i + n) → ∀ (H : Heap) (locs : List Loc) (ls : Array Slot), vd_WS D ad s Kl H locs → lv_has ls 4 [(0, .ref (ad 30)), (1, .int (nI (vd_size K))), (2, .int (nI (vd_need K 6))), (3, .int (nI i))] → W p l e (vd_R 3 68) s m args below meth cd H locs 0 0 Q (F0 m 60 ls []) := by
          intro n
          induction n with
          | zero => intro i Kl hi hk hm; exfalso; omega
          | succ n ih60 =>
            intro i Kl hi hk hm H locs ls HW hl
            refine lv_iload_n hx hb d_D_sweep_60 rfl (lv_at hl 3 rfl) ?_
            refine lv_bipush (v := (nI 16)) hx hb d_D_sweep_61 (by decide) ?_
            refine vd_icmp_ge (tgt := 88) hx hb d_D_sweep_63 (by decide) (by omega) (by omega) (fun c_63 => ?_) (fun c_63 => ?_)
            · refine lv_iload_n hx hb d_D_sweep_88 rfl (lv_at hl 1 rfl) ?_
              refine lv_aload_n hx hb d_D_sweep_89 rfl (lv_at hl 0 rfl) ?_
              refine vg_30_store CX HW lk_D_10 d_D_sweep_90 ?_
              refine vd_callVi (As := []) (rest := [.int (nI (vd_size K))]) CX HW (k_size l D ad Kl) mo_S_size wi_S_size ws_S_size (vr_31 CX HW) ml_D_99 rfl rfl ⟨Nat.le_of_ble_eq_true rfl, Nat.le_of_ble_eq_true rfl⟩ hl.1 (Nat.le_of_ble_eq_true rfl) d_D_sweep_93 ⟨Nat.zero_le _, Nat.zero_le _⟩ (fun r13 K14 H locs q15 HW => ?_)
              obtain ⟨rfl, rfl, b16⟩ := q15
              have b16 : vd_size Kl ≤ 11000 := b16
              refine lv_isub hx hb d_D_sweep_96 ?_
              exact RET _ _ _ _ _ _ d_D_sweep_97 (by rw [show i = 16 by omega] at hk; subst_vars; exact ⟨rfl, rfl⟩) HW
            · refine lv_aload_n hx hb d_D_sweep_66 rfl (lv_at hl 0 rfl) ?_
              refine vg_30_store CX HW lk_D_10 d_D_sweep_67 ?_
              refine vg_31_blobs CX HW lk_D_33 d_D_sweep_70 ?_
              refine lv_aload_n hx hb d_D_sweep_73 rfl (lv_at hl 0 rfl) ?_
              refine vg_30_index CX HW lk_D_20 d_D_sweep_74 ?_
              refine lv_iload_n hx hb d_D_sweep_77 rfl (lv_at hl 3 rfl) ?_
              refine vd_iald CX HW (j := 1) (i := i) rfl (show i < 16 by omega) d_D_sweep_78 (fun b17 => ?_)
              have b17 : Kl 1 i ≤ 9999 := b17
              refine vd_callVv (As := [.int (nI (Kl 1 i))]) (rest := []) CX HW (k_bkeep l D ad Kl (Kl 1 i) (by omega)) mo_B_keep wi_B_keep ws_B_keep (vr_32 CX HW) ml_D_37 rfl rfl ⟨Nat.le_of_ble_eq_true rfl, Nat.le_of_ble_eq_true rfl⟩ hl.1 (Nat.le_of_ble_eq_true rfl) d_D_sweep_79 ⟨Nat.zero_le _, Nat.zero_le _⟩ (fun K19 H locs q20 HW => ?_)
              have eK19 := q20
              refine lv_iinc (v := (nI (i + 1))) (lv' := [(3, .int (nI (i + 1))), (0, .ref (ad 30)), (1, .int (nI (vd_size K))), (2, .int (nI (vd_need K 6)))]) hx hb d_D_sweep_82 hl (k := 3) rfl (vd_inc _ 1) (by decide) rfl (fun ls hl => ?_)
              refine lv_goto (tgt := 60) hx hb d_D_sweep_85 (by decide) ?_
              exact ih60 (i + 1) K19 (by omega) (by rw [eK19, hk]; show _ = vd_bk _ (K11 1 (0 + i)); rw [vd_bks_o _ _ _ (by decide), Nat.zero_add]) (by omega) H locs ls HW (lv_sub hl [1, 2, 3, 0] rfl)
        exact loop60 17 0 K11 (by omega) (by rfl) (by omega) H locs ls HW (lv_sub hl [1, 2, 3, 0] rfl)
      · refine lv_iload_n hx hb d_D_sweep_28 rfl (lv_at hl 2 rfl) ?_
        refine lv_aload_n hx hb d_D_sweep_29 rfl (lv_at hl 0 rfl) ?_
        refine vg_30_store CX HW lk_D_10 d_D_sweep_30 ?_
        refine lv_aload_n hx hb d_D_sweep_33 rfl (lv_at hl 0 rfl) ?_
        refine vg_30_tips CX HW lk_D_26 d_D_sweep_34 ?_
        refine lv_iload_n hx hb d_D_sweep_37 rfl (lv_at hl 3 rfl) ?_
        refine vd_iald CX HW (j := 3) (i := i) rfl (show i < 6 by omega) d_D_sweep_38 (fun b21 => ?_)
        have b21 : K 3 i ≤ 30 := b21
        refine vd_callVi (As := [.int (nI (K 3 i))]) (rest := [.int (nI (vd_need K i))]) CX HW (k_ancOf l D ad K (K 3 i) (by omega)) mo_S_ancestorsOf wi_S_ancestorsOf ws_S_ancestorsOf (vr_31 CX HW) ml_D_102 rfl rfl ⟨Nat.le_of_ble_eq_true rfl, Nat.le_of_ble_eq_true rfl⟩ hl.1 (Nat.le_of_ble_eq_true rfl) d_D_sweep_39 ⟨Nat.zero_le _, Nat.zero_le _⟩ (fun r22 K23 H locs q24 HW => ?_)
        obtain ⟨rfl, rfl, b25⟩ := q24
        have b25 : K 7 (K 3 i) ≤ 2147483647 := b25
        refine vd_ior hx hb d_D_sweep_42 ?_
        refine lv_istore_n (lv' := [(2, .int (nI ((vd_need K i) ||| (K 7 (K 3 i))))), (0, .ref (ad 30)), (1, .int (nI (vd_size K))), (3, .int (nI i))]) hx hb d_D_sweep_43 rfl hl (by decide) rfl (fun ls hl => ?_)
        refine lv_iinc (v := (nI (i + 1))) (lv' := [(3, .int (nI (i + 1))), (2, .int (nI ((vd_need K i) ||| (K 7 (K 3 i))))), (0, .ref (ad 30)), (1, .int (nI (vd_size K)))]) hx hb d_D_sweep_44 hl (k := 3) rfl (vd_inc _ 1) (by decide) rfl (fun ls hl => ?_)
        refine lv_goto (tgt := 22) hx hb d_D_sweep_47 (by decide) ?_
        exact ih22 (i + 1) (by omega) (by exact vd_or31 hn (by omega)) (by omega) H locs ls HW (lv_sub hl [2, 3, 1, 0] rfl)
  exact loop22 7 0 (by omega) (by show K 7 (K 41 0) ≤ _; omega) (by omega) H locs ls HW (lv_sub hl [3, 2, 1, 0] rfl)
set_option maxHeartbeats 1000000 in
set_option maxRecDepth 100000 in
theorem k_content (l : Launch) (D : va_G) (ad : Nat → Nat) (K : KT) (w : Int32) (x : Int32)  : vd_MI l y_D_content c_D_content 3 (some .int) 1 20 D ad [.ref (ad 30), .int w, .int x] K (fun (ans : Int32) (K' : KT) => K = K' ∧ ans = (if (vd_in 0 1 w && vd_in 0 15 x) = true then nI (K w.toNatClampNeg x.toNatClampNeg) else (-1 : Int32))) := by
  refine vd_entI (by decide) (Nat.le_of_ble_eq_true rfl) (lv := [(0, .ref (ad 30)), (1, .int w), (2, .int x)]) rfl ?_
  intro p e s m args below meth cd ls Q CX hl H locs HW RET
  have hx := CX.1
  have hb := CX.2.1
  refine lv_iload_n hx hb d_D_content_0 rfl (lv_at hl 2 rfl) ?_
  refine vd_callSi (As := [.int x]) (rest := []) CX HW (k_isFile l D ad K x) mo_D_isFile wt_D_isFile ml_D_29 rfl rfl ⟨Nat.le_of_ble_eq_true rfl, Nat.le_of_ble_eq_true rfl⟩ hl.1 (Nat.le_of_ble_eq_true rfl) d_D_content_1 ⟨Nat.zero_le _, Nat.zero_le _⟩ (fun r1 K2 H locs q3 HW => ?_)
  obtain ⟨rfl, rfl⟩ := q3
  refine vd_ifb_ne (tgt := 9) hx hb d_D_content_4 (by decide) (fun c_4 => ?_) (fun c_4 => ?_)
  · obtain ⟨f, hf1, hf2, rfl⟩ := vd_in_t c_4
    refine lv_iload_n hx hb d_D_content_9 rfl (lv_at hl 1 rfl) ?_
    rcases vd_sw2 w with h_sw | rfl | rfl
    · refine lv_lookup (off := 40) (tgt := 50) hx hb d_D_content_10 (by decide) (by show Op.lookupswitch.offset [(0, 26), (1, 33)] 40 w.toInt = 40; rw [lv_osw (k := nI 0) (fun q => by rw [q] at h_sw; revert h_sw; decide) (by decide), lv_osw (k := nI 1) (fun q => by rw [q] at h_sw; revert h_sw; decide) (by decide)]; rfl) (by decide) ?_
      refine lv_iconst (v := (-1 : Int32)) hx hb d_D_content_50 (by decide) ?_
      exact RET _ _ _ _ _ _ d_D_content_51 (by have z : vd_in 0 1 w = false := (by rcases h_sw with h | h; exact vd_in_l (by omega); exact vd_in_h (by omega)); rw [if_neg (by simp [z])]; exact ⟨rfl, rfl⟩) HW
    · refine lv_lookup (off := 26) (tgt := 36) hx hb d_D_content_10 (by decide) (by decide) (by decide) ?_
      refine lv_aload_n hx hb d_D_content_36 rfl (lv_at hl 0 rfl) ?_
      refine vg_30_work CX HW lk_D_16 d_D_content_37 ?_
      refine lv_iload_n hx hb d_D_content_40 rfl (lv_at hl 2 rfl) ?_
      refine vd_iald CX HW (j := 0) (i := f) rfl (show f < 16 by omega) d_D_content_41 (fun b4 => ?_)
      have b4 : K 0 f ≤ 9999 := b4
      exact RET _ _ _ _ _ _ d_D_content_42 (by rw [if_pos (by rw [c_4, vd_in_n (Nat.zero_le _) (by decide) (by decide)]; rfl), nI_clamp (show f < 2 ^ 31 by omega), nI_clamp (by decide)]; exact ⟨rfl, rfl⟩) HW
    · refine lv_lookup (off := 33) (tgt := 43) hx hb d_D_content_10 (by decide) (by decide) (by decide) ?_
      refine lv_aload_n hx hb d_D_content_43 rfl (lv_at hl 0 rfl) ?_
      refine vg_30_index CX HW lk_D_20 d_D_content_44 ?_
      refine lv_iload_n hx hb d_D_content_47 rfl (lv_at hl 2 rfl) ?_
      refine vd_iald CX HW (j := 1) (i := f) rfl (show f < 16 by omega) d_D_content_48 (fun b5 => ?_)
      have b5 : K 1 f ≤ 9999 := b5
      exact RET _ _ _ _ _ _ d_D_content_49 (by rw [if_pos (by rw [c_4, vd_in_n (Nat.zero_le _) (by decide) (by decide)]; rfl), nI_clamp (show f < 2 ^ 31 by omega), nI_clamp (by decide)]; exact ⟨rfl, rfl⟩) HW
  · refine lv_iconst (v := (-1 : Int32)) hx hb d_D_content_7 (by decide) ?_
    exact RET _ _ _ _ _ _ d_D_content_8 (by have h90 : ¬ ((vd_in 0 1 w && vd_in 0 15 x) = true) := (by rw [c_4, Bool.and_false]; decide); rw [if_neg h90]; exact ⟨rfl, rfl⟩) HW
set_option maxHeartbeats 1000000 in
set_option maxRecDepth 100000 in
theorem k_at (l : Launch) (D : va_G) (ad : Nat → Nat) (K : KT) (x : Int32) (y : Int32)  : vd_MI l y_D_at c_D_at 3 (some .int) 2 44 D ad [.ref (ad 30), .int x, .int y] K (fun (ans : Int32) (K' : KT) => K = K' ∧ ans = (if (vd_hol K x && vd_in 0 15 y) = true then nI (vd_cnt K x.toNatClampNeg y.toNatClampNeg) else (-1 : Int32))) := by
  refine vd_entI (by decide) (Nat.le_of_ble_eq_true rfl) (lv := [(0, .ref (ad 30)), (1, .int x), (2, .int y)]) rfl ?_
  intro p e s m args below meth cd ls Q CX hl H locs HW RET
  have hx := CX.1
  have hb := CX.2.1
  refine lv_aload_n hx hb d_D_at_0 rfl (lv_at hl 0 rfl) ?_
  refine vg_30_store CX HW lk_D_10 d_D_at_1 ?_
  refine lv_iload_n hx hb d_D_at_4 rfl (lv_at hl 1 rfl) ?_
  refine vd_callVi (As := [.int x]) (rest := []) CX HW (k_holds l D ad K x) mo_S_holds wi_S_holds ws_S_holds (vr_31 CX HW) ml_D_89 rfl rfl ⟨Nat.le_of_ble_eq_true rfl, Nat.le_of_ble_eq_true rfl⟩ hl.1 (Nat.le_of_ble_eq_true rfl) d_D_at_5 ⟨Nat.zero_le _, Nat.zero_le _⟩ (fun r1 K2 H locs q3 HW => ?_)
  obtain ⟨rfl, rfl⟩ := q3
  refine vd_ifb_eq (tgt := 18) hx hb d_D_at_8 (by decide) (fun c_8 => ?_) (fun c_8 => ?_)
  · refine lv_iconst (v := (-1 : Int32)) hx hb d_D_at_18 (by decide) ?_
    exact RET _ _ _ _ _ _ d_D_at_19 (by first | (have h90 : ¬ ((vd_hol K x && vd_in 0 15 y) = true) := (by rw [c_15]; simp); rw [if_neg h90]; exact ⟨rfl, rfl⟩) | (have h90 : ¬ ((vd_hol K x && vd_in 0 15 y) = true) := (by rw [c_8]; simp); rw [if_neg h90]; exact ⟨rfl, rfl⟩)) HW
  · refine lv_iload_n hx hb d_D_at_11 rfl (lv_at hl 2 rfl) ?_
    refine vd_callSi (As := [.int y]) (rest := []) CX HW (k_isFile l D ad K y) mo_D_isFile wt_D_isFile ml_D_29 rfl rfl ⟨Nat.le_of_ble_eq_true rfl, Nat.le_of_ble_eq_true rfl⟩ hl.1 (Nat.le_of_ble_eq_true rfl) d_D_at_12 ⟨Nat.zero_le _, Nat.zero_le _⟩ (fun r4 K5 H locs q6 HW => ?_)
    obtain ⟨rfl, rfl⟩ := q6
    refine vd_ifb_ne (tgt := 20) hx hb d_D_at_15 (by decide) (fun c_15 => ?_) (fun c_15 => ?_)
    · obtain ⟨f, hf1, hf2, rfl, hf3⟩ := vd_hol_t c_8
      obtain ⟨g, hg1, hg2, rfl⟩ := vd_in_t c_15
      refine lv_aload_n hx hb d_D_at_20 rfl (lv_at hl 0 rfl) ?_
      refine vg_30_store CX HW lk_D_10 d_D_at_21 ?_
      refine lv_iload_n hx hb d_D_at_24 rfl (lv_at hl 1 rfl) ?_
      refine lv_iload_n hx hb d_D_at_25 rfl (lv_at hl 2 rfl) ?_
      refine vd_callVi (As := [.int (nI f), .int (nI g)]) (rest := []) CX HW (k_contentOf l D ad K f g (by omega) (by omega)) mo_S_contentOf wi_S_contentOf ws_S_contentOf (vr_31 CX HW) ml_D_108 rfl rfl ⟨Nat.le_of_ble_eq_true rfl, Nat.le_of_ble_eq_true rfl⟩ hl.1 (Nat.le_of_ble_eq_true rfl) d_D_at_26 ⟨Nat.zero_le _, Nat.zero_le _⟩ (fun r7 K8 H locs q9 HW => ?_)
      obtain ⟨rfl, rfl, b10⟩ := q9
      have b10 : vd_cnt K f g ≤ 9999 := b10
      exact RET _ _ _ _ _ _ d_D_at_29 (by have h90 : (vd_hol K (nI f) && vd_in 0 15 (nI g)) = true := (by rw [c_8, c_15]; rfl); rw [nI_clamp (show f < 2 ^ 31 by omega)]; rw [nI_clamp (show g < 2 ^ 31 by omega)]; rw [if_pos h90]; exact ⟨rfl, rfl⟩) HW
    · refine lv_iconst (v := (-1 : Int32)) hx hb d_D_at_18 (by decide) ?_
      exact RET _ _ _ _ _ _ d_D_at_19 (by first | (have h90 : ¬ ((vd_hol K x && vd_in 0 15 y) = true) := (by rw [c_15]; simp); rw [if_neg h90]; exact ⟨rfl, rfl⟩) | (have h90 : ¬ ((vd_hol K x && vd_in 0 15 y) = true) := (by rw [c_8]; simp); rw [if_neg h90]; exact ⟨rfl, rfl⟩)) HW
set_option maxHeartbeats 1000000 in
set_option maxRecDepth 100000 in
theorem k_parent (l : Launch) (D : va_G) (ad : Nat → Nat) (K : KT) (x : Int32) (y : Int32)  : vd_MI l y_D_parent c_D_parent 3 (some .int) 1 22 D ad [.ref (ad 30), .int x, .int y] K (fun (ans : Int32) (K' : KT) => K = K' ∧ ans = (if (vd_hol K x && vd_in 0 1 y) = true then nI (if y.toNatClampNeg = 0 then K 5 x.toNatClampNeg else K 6 x.toNatClampNeg) else (-1 : Int32))) := by
  refine vd_entI (by decide) (Nat.le_of_ble_eq_true rfl) (lv := [(0, .ref (ad 30)), (1, .int x), (2, .int y)]) rfl ?_
  intro p e s m args below meth cd ls Q CX hl H locs HW RET
  have hx := CX.1
  have hb := CX.2.1
  refine lv_aload_n hx hb d_D_parent_0 rfl (lv_at hl 0 rfl) ?_
  refine vg_30_store CX HW lk_D_10 d_D_parent_1 ?_
  refine lv_iload_n hx hb d_D_parent_4 rfl (lv_at hl 1 rfl) ?_
  refine vd_callVi (As := [.int x]) (rest := []) CX HW (k_holds l D ad K x) mo_S_holds wi_S_holds ws_S_holds (vr_31 CX HW) ml_D_89 rfl rfl ⟨Nat.le_of_ble_eq_true rfl, Nat.le_of_ble_eq_true rfl⟩ hl.1 (Nat.le_of_ble_eq_true rfl) d_D_parent_5 ⟨Nat.zero_le _, Nat.zero_le _⟩ (fun r1 K2 H locs q3 HW => ?_)
  obtain ⟨rfl, rfl⟩ := q3
  refine vd_ifb_eq (tgt := 20) hx hb d_D_parent_8 (by decide) (fun c_8 => ?_) (fun c_8 => ?_)
  · refine lv_iconst (v := (-1 : Int32)) hx hb d_D_parent_20 (by decide) ?_
    exact RET _ _ _ _ _ _ d_D_parent_21 (by first | (rw [vd_leI (by decide)] at c_17; have h90 : ¬ ((vd_hol K x && vd_in 0 1 y) = true) := (by rw [vd_in_h (lo := 0) (hi := 1) (x := y) (by omega)]; simp); rw [if_neg h90]; exact ⟨rfl, rfl⟩) | (rw [vd_ltZ] at c_12; have h90 : ¬ ((vd_hol K x && vd_in 0 1 y) = true) := (by rw [vd_in_l (lo := 0) (hi := 1) (x := y) (by omega)]; simp); rw [if_neg h90]; exact ⟨rfl, rfl⟩) | (have h90 : ¬ ((vd_hol K x && vd_in 0 1 y) = true) := (by rw [c_8]; simp); rw [if_neg h90]; exact ⟨rfl, rfl⟩)) HW
  · refine lv_iload_n hx hb d_D_parent_11 rfl (lv_at hl 2 rfl) ?_
    refine lv_if_lt (tgt := 20) hx hb d_D_parent_12 (by decide) (fun c_12 => ?_) (fun c_12 => ?_)
    · refine lv_iconst (v := (-1 : Int32)) hx hb d_D_parent_20 (by decide) ?_
      exact RET _ _ _ _ _ _ d_D_parent_21 (by first | (rw [vd_leI (by decide)] at c_17; have h90 : ¬ ((vd_hol K x && vd_in 0 1 y) = true) := (by rw [vd_in_h (lo := 0) (hi := 1) (x := y) (by omega)]; simp); rw [if_neg h90]; exact ⟨rfl, rfl⟩) | (rw [vd_ltZ] at c_12; have h90 : ¬ ((vd_hol K x && vd_in 0 1 y) = true) := (by rw [vd_in_l (lo := 0) (hi := 1) (x := y) (by omega)]; simp); rw [if_neg h90]; exact ⟨rfl, rfl⟩) | (have h90 : ¬ ((vd_hol K x && vd_in 0 1 y) = true) := (by rw [c_8]; simp); rw [if_neg h90]; exact ⟨rfl, rfl⟩)) HW
    · refine lv_iload_n hx hb d_D_parent_15 rfl (lv_at hl 2 rfl) ?_
      refine lv_iconst (v := (nI 1)) hx hb d_D_parent_16 (by decide) ?_
      refine lv_icmp_le (tgt := 22) hx hb d_D_parent_17 (by decide) (fun c_17 => ?_) (fun c_17 => ?_)
      · have c_y : vd_in 0 1 y = true := vd_in_y (by rw [vd_ltZ] at c_12; omega) (by rw [vd_leI (by decide)] at c_17; omega)
        obtain ⟨f, hf1, hf2, rfl, hf3⟩ := vd_hol_t c_8
        obtain ⟨g, hg1, hg2, rfl⟩ := vd_in_t c_y
        refine lv_aload_n hx hb d_D_parent_22 rfl (lv_at hl 0 rfl) ?_
        refine vg_30_store CX HW lk_D_10 d_D_parent_23 ?_
        refine lv_iload_n hx hb d_D_parent_26 rfl (lv_at hl 1 rfl) ?_
        refine lv_iload_n hx hb d_D_parent_27 rfl (lv_at hl 2 rfl) ?_
        refine vd_callVi (As := [.int (nI f), .int (nI g)]) (rest := []) CX HW (k_parentOf l D ad K f g (by omega) (by omega)) mo_S_parentOf wi_S_parentOf ws_S_parentOf (vr_31 CX HW) ml_D_92 rfl rfl ⟨Nat.le_of_ble_eq_true rfl, Nat.le_of_ble_eq_true rfl⟩ hl.1 (Nat.le_of_ble_eq_true rfl) d_D_parent_28 ⟨Nat.zero_le _, Nat.zero_le _⟩ (fun r4 K5 H locs q6 HW => ?_)
        obtain ⟨rfl, rfl, b7⟩ := q6
        have b7 : (if g = 0 then K 5 f else K 6 f) ≤ 30 := b7
        exact RET _ _ _ _ _ _ d_D_parent_31 (by have h90 : (vd_hol K (nI f) && vd_in 0 1 (nI g)) = true := (by rw [c_8, c_y]; rfl); rw [nI_clamp (show f < 2 ^ 31 by omega)]; rw [nI_clamp (show g < 2 ^ 31 by omega)]; rw [if_pos h90]; exact ⟨rfl, rfl⟩) HW
      · refine lv_iconst (v := (-1 : Int32)) hx hb d_D_parent_20 (by decide) ?_
        exact RET _ _ _ _ _ _ d_D_parent_21 (by first | (rw [vd_leI (by decide)] at c_17; have h90 : ¬ ((vd_hol K x && vd_in 0 1 y) = true) := (by rw [vd_in_h (lo := 0) (hi := 1) (x := y) (by omega)]; simp); rw [if_neg h90]; exact ⟨rfl, rfl⟩) | (rw [vd_ltZ] at c_12; have h90 : ¬ ((vd_hol K x && vd_in 0 1 y) = true) := (by rw [vd_in_l (lo := 0) (hi := 1) (x := y) (by omega)]; simp); rw [if_neg h90]; exact ⟨rfl, rfl⟩) | (have h90 : ¬ ((vd_hol K x && vd_in 0 1 y) = true) := (by rw [c_8]; simp); rw [if_neg h90]; exact ⟨rfl, rfl⟩)) HW
set_option maxHeartbeats 1000000 in
set_option maxRecDepth 100000 in
theorem k_branchAt (l : Launch) (D : va_G) (ad : Nat → Nat) (K : KT) (x : Int32)  : vd_MI l y_D_branchAt c_D_branchAt 2 (some .int) 1 20 D ad [.ref (ad 30), .int x] K (fun (ans : Int32) (K' : KT) => K = K' ∧ ans = (if vd_in 0 5 x = true then nI (K 3 x.toNatClampNeg) else (-1 : Int32))) := by
  refine vd_entI (by decide) (Nat.le_of_ble_eq_true rfl) (lv := [(0, .ref (ad 30)), (1, .int x)]) rfl ?_
  intro p e s m args below meth cd ls Q CX hl H locs HW RET
  have hx := CX.1
  have hb := CX.2.1
  refine lv_iload_n hx hb d_D_branchAt_0 rfl (lv_at hl 1 rfl) ?_
  refine vd_callSi (As := [.int x]) (rest := []) CX HW (k_isBranch l D ad K x) mo_D_isBranch wt_D_isBranch ml_D_69 rfl rfl ⟨Nat.le_of_ble_eq_true rfl, Nat.le_of_ble_eq_true rfl⟩ hl.1 (Nat.le_of_ble_eq_true rfl) d_D_branchAt_1 ⟨Nat.zero_le _, Nat.zero_le _⟩ (fun r1 K2 H locs q3 HW => ?_)
  obtain ⟨rfl, rfl⟩ := q3
  refine vd_ifb_eq (tgt := 16) hx hb d_D_branchAt_4 (by decide) (fun c_4 => ?_) (fun c_4 => ?_)
  · refine lv_iconst (v := (-1 : Int32)) hx hb d_D_branchAt_16 (by decide) ?_
    exact RET _ _ _ _ _ _ d_D_branchAt_17 (by have h90 : ¬ (vd_in 0 5 x = true) := (by rw [c_4]; decide); rw [if_neg h90]; exact ⟨rfl, rfl⟩) HW
  · obtain ⟨f, hf1, hf2, rfl⟩ := vd_in_t c_4
    refine lv_aload_n hx hb d_D_branchAt_7 rfl (lv_at hl 0 rfl) ?_
    refine vg_30_tips CX HW lk_D_26 d_D_branchAt_8 ?_
    refine lv_iload_n hx hb d_D_branchAt_11 rfl (lv_at hl 1 rfl) ?_
    refine vd_iald CX HW (j := 3) (i := f) rfl (show f < 6 by omega) d_D_branchAt_12 (fun b4 => ?_)
    have b4 : K 3 f ≤ 30 := b4
    refine lv_goto (tgt := 17) hx hb d_D_branchAt_13 (by decide) ?_
    exact RET _ _ _ _ _ _ d_D_branchAt_17 (by rw [if_pos c_4, nI_clamp (show f < 2 ^ 31 by omega)]; exact ⟨rfl, rfl⟩) HW
set_option maxHeartbeats 1000000 in
set_option maxRecDepth 100000 in
theorem k_common (l : Launch) (D : va_G) (ad : Nat → Nat) (K : KT) (x : Int32) (y : Int32)  : vd_MI l y_D_common c_D_common 3 (some .int) 1 24 D ad [.ref (ad 30), .int x, .int y] K (fun (ans : Int32) (K' : KT) => K = K' ∧ ans = (if (vd_hol K x && vd_hol K y) = true then nI (vd_top (K 7 x.toNatClampNeg &&& K 7 y.toNatClampNeg) 30) else (-1 : Int32))) := by
  refine vd_entI (by decide) (Nat.le_of_ble_eq_true rfl) (lv := [(0, .ref (ad 30)), (1, .int x), (2, .int y)]) rfl ?_
  intro p e s m args below meth cd ls Q CX hl H locs HW RET
  have hx := CX.1
  have hb := CX.2.1
  refine lv_aload_n hx hb d_D_common_0 rfl (lv_at hl 0 rfl) ?_
  refine vg_30_store CX HW lk_D_10 d_D_common_1 ?_
  refine lv_iload_n hx hb d_D_common_4 rfl (lv_at hl 1 rfl) ?_
  refine vd_callVi (As := [.int x]) (rest := []) CX HW (k_holds l D ad K x) mo_S_holds wi_S_holds ws_S_holds (vr_31 CX HW) ml_D_89 rfl rfl ⟨Nat.le_of_ble_eq_true rfl, Nat.le_of_ble_eq_true rfl⟩ hl.1 (Nat.le_of_ble_eq_true rfl) d_D_common_5 ⟨Nat.zero_le _, Nat.zero_le _⟩ (fun r1 K2 H locs q3 HW => ?_)
  obtain ⟨rfl, rfl⟩ := q3
  refine vd_ifb_eq (tgt := 22) hx hb d_D_common_8 (by decide) (fun c_8 => ?_) (fun c_8 => ?_)
  · refine lv_iconst (v := (-1 : Int32)) hx hb d_D_common_22 (by decide) ?_
    exact RET _ _ _ _ _ _ d_D_common_23 (by first | (have h90 : ¬ ((vd_hol K x && vd_hol K y) = true) := (by rw [c_19]; simp); rw [if_neg h90]; exact ⟨rfl, rfl⟩) | (have h90 : ¬ ((vd_hol K x && vd_hol K y) = true) := (by rw [c_8]; simp); rw [if_neg h90]; exact ⟨rfl, rfl⟩)) HW
  · refine lv_aload_n hx hb d_D_common_11 rfl (lv_at hl 0 rfl) ?_
    refine vg_30_store CX HW lk_D_10 d_D_common_12 ?_
    refine lv_iload_n hx hb d_D_common_15 rfl (lv_at hl 2 rfl) ?_
    refine vd_callVi (As := [.int y]) (rest := []) CX HW (k_holds l D ad K y) mo_S_holds wi_S_holds ws_S_holds (vr_31 CX HW) ml_D_89 rfl rfl ⟨Nat.le_of_ble_eq_true rfl, Nat.le_of_ble_eq_true rfl⟩ hl.1 (Nat.le_of_ble_eq_true rfl) d_D_common_16 ⟨Nat.zero_le _, Nat.zero_le _⟩ (fun r4 K5 H locs q6 HW => ?_)
    obtain ⟨rfl, rfl⟩ := q6
    refine vd_ifb_ne (tgt := 24) hx hb d_D_common_19 (by decide) (fun c_19 => ?_) (fun c_19 => ?_)
    · obtain ⟨f, hf1, hf2, rfl, hf3⟩ := vd_hol_t c_8
      obtain ⟨g, hg1, hg2, rfl, hg3⟩ := vd_hol_t c_19
      refine lv_aload_n hx hb d_D_common_24 rfl (lv_at hl 0 rfl) ?_
      refine vg_30_store CX HW lk_D_10 d_D_common_25 ?_
      refine lv_iload_n hx hb d_D_common_28 rfl (lv_at hl 1 rfl) ?_
      refine lv_iload_n hx hb d_D_common_29 rfl (lv_at hl 2 rfl) ?_
      refine vd_callVi (As := [.int (nI f), .int (nI g)]) (rest := []) CX HW (k_meet l D ad K f g (by omega) (by omega)) mo_S_meetingOf wi_S_meetingOf ws_S_meetingOf (vr_31 CX HW) ml_D_111 rfl rfl ⟨Nat.le_of_ble_eq_true rfl, Nat.le_of_ble_eq_true rfl⟩ hl.1 (Nat.le_of_ble_eq_true rfl) d_D_common_30 ⟨Nat.zero_le _, Nat.zero_le _⟩ (fun r7 K8 H locs q9 HW => ?_)
      obtain ⟨rfl, rfl, b10⟩ := q9
      have b10 : vd_top (K 7 f &&& K 7 g) 30 ≤ 30 := b10
      exact RET _ _ _ _ _ _ d_D_common_33 (by have h90 : (vd_hol K (nI f) && vd_hol K (nI g)) = true := (by rw [c_8, c_19]; rfl); rw [nI_clamp (show f < 2 ^ 31 by omega)]; rw [nI_clamp (show g < 2 ^ 31 by omega)]; rw [if_pos h90]; exact ⟨rfl, rfl⟩) HW
    · refine lv_iconst (v := (-1 : Int32)) hx hb d_D_common_22 (by decide) ?_
      exact RET _ _ _ _ _ _ d_D_common_23 (by first | (have h90 : ¬ ((vd_hol K x && vd_hol K y) = true) := (by rw [c_19]; simp); rw [if_neg h90]; exact ⟨rfl, rfl⟩) | (have h90 : ¬ ((vd_hol K x && vd_hol K y) = true) := (by rw [c_8]; simp); rw [if_neg h90]; exact ⟨rfl, rfl⟩)) HW
set_option maxHeartbeats 1000000 in
set_option maxRecDepth 100000 in
theorem k_differ (l : Launch) (D : va_G) (ad : Nat → Nat) (K : KT) (x : Int32) (y : Int32)  : vd_MI l y_D_differ c_D_differ 5 (some .int) 2 44 D ad [.ref (ad 30), .int x, .int y] K (fun (ans : Int32) (K' : KT) => K = K' ∧ ans = (if (vd_hol K x && vd_hol K y) = true then nI (vd_dif K x.toNatClampNeg y.toNatClampNeg) else (-1 : Int32))) := by
  refine vd_entI (by decide) (Nat.le_of_ble_eq_true rfl) (lv := [(0, .ref (ad 30)), (1, .int x), (2, .int y)]) rfl ?_
  intro p e s m args below meth cd ls Q CX hl H locs HW RET
  have hx := CX.1
  have hb := CX.2.1
  refine lv_aload_n hx hb d_D_differ_0 rfl (lv_at hl 0 rfl) ?_
  refine vg_30_store CX HW lk_D_10 d_D_differ_1 ?_
  refine lv_iload_n hx hb d_D_differ_4 rfl (lv_at hl 1 rfl) ?_
  refine vd_callVi (As := [.int x]) (rest := []) CX HW (k_holds l D ad K x) mo_S_holds wi_S_holds ws_S_holds (vr_31 CX HW) ml_D_89 rfl rfl ⟨Nat.le_of_ble_eq_true rfl, Nat.le_of_ble_eq_true rfl⟩ hl.1 (Nat.le_of_ble_eq_true rfl) d_D_differ_5 ⟨Nat.zero_le _, Nat.zero_le _⟩ (fun r1 K2 H locs q3 HW => ?_)
  obtain ⟨rfl, rfl⟩ := q3
  refine vd_ifb_eq (tgt := 22) hx hb d_D_differ_8 (by decide) (fun c_8 => ?_) (fun c_8 => ?_)
  · refine lv_iconst (v := (-1 : Int32)) hx hb d_D_differ_22 (by decide) ?_
    exact RET _ _ _ _ _ _ d_D_differ_23 (by first | (have h90 : ¬ ((vd_hol K x && vd_hol K y) = true) := (by rw [c_19]; simp); rw [if_neg h90]; exact ⟨rfl, rfl⟩) | (have h90 : ¬ ((vd_hol K x && vd_hol K y) = true) := (by rw [c_8]; simp); rw [if_neg h90]; exact ⟨rfl, rfl⟩)) HW
  · refine lv_aload_n hx hb d_D_differ_11 rfl (lv_at hl 0 rfl) ?_
    refine vg_30_store CX HW lk_D_10 d_D_differ_12 ?_
    refine lv_iload_n hx hb d_D_differ_15 rfl (lv_at hl 2 rfl) ?_
    refine vd_callVi (As := [.int y]) (rest := []) CX HW (k_holds l D ad K y) mo_S_holds wi_S_holds ws_S_holds (vr_31 CX HW) ml_D_89 rfl rfl ⟨Nat.le_of_ble_eq_true rfl, Nat.le_of_ble_eq_true rfl⟩ hl.1 (Nat.le_of_ble_eq_true rfl) d_D_differ_16 ⟨Nat.zero_le _, Nat.zero_le _⟩ (fun r4 K5 H locs q6 HW => ?_)
    obtain ⟨rfl, rfl⟩ := q6
    refine vd_ifb_ne (tgt := 24) hx hb d_D_differ_19 (by decide) (fun c_19 => ?_) (fun c_19 => ?_)
    · obtain ⟨f, hf1, hf2, rfl, hf3⟩ := vd_hol_t c_8
      obtain ⟨g, hg1, hg2, rfl, hg3⟩ := vd_hol_t c_19
      refine lv_iconst (v := (nI 0)) hx hb d_D_differ_24 (by decide) ?_
      refine lv_istore_n (lv' := [(3, .int (nI 0)), (0, .ref (ad 30)), (1, .int (nI f)), (2, .int (nI g))]) hx hb d_D_differ_25 rfl hl (by decide) rfl (fun ls hl => ?_)
      refine lv_iconst (v := (nI 0)) hx hb d_D_differ_26 (by decide) ?_
      refine lv_istore (lv' := [(4, .int (nI 0)), (3, .int (nI 0)), (0, .ref (ad 30)), (1, .int (nI f)), (2, .int (nI g))]) hx hb d_D_differ_27 hl (by decide) rfl (fun ls hl => ?_)
      have loop29 : ∀ (n : Nat) (a : Nat) (i : Nat), (a = vd_cn (fun q => vd_cnt K f q != vd_cnt K g q) i) → (i ≤ 16) → (16 < i + n) → ∀ (H : Heap) (locs : List Loc) (ls : Array Slot), vd_WS D ad s K H locs → lv_has ls 5 [(0, .ref (ad 30)), (1, .int (nI f)), (2, .int (nI g)), (3, .int (nI a)), (4, .int (nI i))] → W p l e (vd_R 2 44) s m args below meth cd H locs 0 0 Q (F0 m 29 ls []) := by
        intro n
        induction n with
        | zero => intro a i ha hi hm; exfalso; omega
        | succ n ih29 =>
          intro a i ha hi hm H locs ls HW hl
          refine lv_iload hx hb d_D_differ_29 (lv_at hl 4 rfl) ?_
          refine lv_bipush (v := (nI 16)) hx hb d_D_differ_31 (by decide) ?_
          refine vd_icmp_ge (tgt := 68) hx hb d_D_differ_33 (by decide) (by omega) (by omega) (fun c_33 => ?_) (fun c_33 => ?_)
          · refine lv_iload_n hx hb d_D_differ_68 rfl (lv_at hl 3 rfl) ?_
            exact RET _ _ _ _ _ _ d_D_differ_69 (by have e1 : i = 16 := (by omega); subst e1; rw [ha]; have h90 : (vd_hol K (nI f) && vd_hol K (nI g)) = true := (by rw [c_8, c_19]; rfl); rw [nI_clamp (show f < 2 ^ 31 by omega)]; rw [nI_clamp (show g < 2 ^ 31 by omega)]; rw [if_pos h90]; exact ⟨rfl, rfl⟩) HW
          · refine lv_aload_n hx hb d_D_differ_36 rfl (lv_at hl 0 rfl) ?_
            refine vg_30_store CX HW lk_D_10 d_D_differ_37 ?_
            refine lv_iload_n hx hb d_D_differ_40 rfl (lv_at hl 1 rfl) ?_
            refine lv_iload hx hb d_D_differ_41 (lv_at hl 4 rfl) ?_
            refine vd_callVi (As := [.int (nI f), .int (nI i)]) (rest := []) CX HW (k_contentOf l D ad K f i (by omega) (by omega)) mo_S_contentOf wi_S_contentOf ws_S_contentOf (vr_31 CX HW) ml_D_108 rfl rfl ⟨Nat.le_of_ble_eq_true rfl, Nat.le_of_ble_eq_true rfl⟩ hl.1 (Nat.le_of_ble_eq_true rfl) d_D_differ_43 ⟨Nat.zero_le _, Nat.zero_le _⟩ (fun r7 K8 H locs q9 HW => ?_)
            obtain ⟨rfl, rfl, b10⟩ := q9
            have b10 : vd_cnt K f i ≤ 9999 := b10
            refine lv_aload_n hx hb d_D_differ_46 rfl (lv_at hl 0 rfl) ?_
            refine vg_30_store CX HW lk_D_10 d_D_differ_47 ?_
            refine lv_iload_n hx hb d_D_differ_50 rfl (lv_at hl 2 rfl) ?_
            refine lv_iload hx hb d_D_differ_51 (lv_at hl 4 rfl) ?_
            refine vd_callVi (As := [.int (nI g), .int (nI i)]) (rest := [.int (nI (vd_cnt K f i))]) CX HW (k_contentOf l D ad K g i (by omega) (by omega)) mo_S_contentOf wi_S_contentOf ws_S_contentOf (vr_31 CX HW) ml_D_108 rfl rfl ⟨Nat.le_of_ble_eq_true rfl, Nat.le_of_ble_eq_true rfl⟩ hl.1 (Nat.le_of_ble_eq_true rfl) d_D_differ_53 ⟨Nat.zero_le _, Nat.zero_le _⟩ (fun r11 K12 H locs q13 HW => ?_)
            obtain ⟨rfl, rfl, b14⟩ := q13
            have b14 : vd_cnt K g i ≤ 9999 := b14
            refine vd_icmp_eq (tgt := 62) hx hb d_D_differ_56 (by decide) (by omega) (by omega) (fun c_56 => ?_) (fun c_56 => ?_)
            · refine lv_iinc (v := (nI (i + 1))) (lv' := [(4, .int (nI (i + 1))), (0, .ref (ad 30)), (1, .int (nI f)), (2, .int (nI g)), (3, .int (nI a))]) hx hb d_D_differ_62 hl (k := 4) rfl (vd_inc _ 1) (by decide) rfl (fun ls hl => ?_)
              refine lv_goto (tgt := 29) hx hb d_D_differ_65 (by decide) ?_
              exact ih29 a (i + 1) (by first | exact vd_cn_t ha (by simpa using c_56) | exact vd_cn_f ha (by simpa using c_56)) (by omega) (by omega) H locs ls HW (lv_sub hl [1, 2, 3, 4, 0] rfl)
            · refine lv_iinc (v := (nI (a + 1))) (lv' := [(3, .int (nI (a + 1))), (0, .ref (ad 30)), (1, .int (nI f)), (2, .int (nI g)), (4, .int (nI i))]) hx hb d_D_differ_59 hl (k := 3) rfl (vd_inc _ 1) (by decide) rfl (fun ls hl => ?_)
              refine lv_iinc (v := (nI (i + 1))) (lv' := [(4, .int (nI (i + 1))), (3, .int (nI (a + 1))), (0, .ref (ad 30)), (1, .int (nI f)), (2, .int (nI g))]) hx hb d_D_differ_62 hl (k := 4) rfl (vd_inc _ 1) (by decide) rfl (fun ls hl => ?_)
              refine lv_goto (tgt := 29) hx hb d_D_differ_65 (by decide) ?_
              exact ih29 (a + 1) (i + 1) (by first | exact vd_cn_t ha (by simpa using c_56) | exact vd_cn_f ha (by simpa using c_56)) (by omega) (by omega) H locs ls HW (lv_sub hl [2, 3, 4, 1, 0] rfl)
      exact loop29 17 0 0 (by rfl) (by omega) (by omega) H locs ls HW (lv_sub hl [2, 3, 4, 1, 0] rfl)
    · refine lv_iconst (v := (-1 : Int32)) hx hb d_D_differ_22 (by decide) ?_
      exact RET _ _ _ _ _ _ d_D_differ_23 (by first | (have h90 : ¬ ((vd_hol K x && vd_hol K y) = true) := (by rw [c_19]; simp); rw [if_neg h90]; exact ⟨rfl, rfl⟩) | (have h90 : ¬ ((vd_hol K x && vd_hol K y) = true) := (by rw [c_8]; simp); rw [if_neg h90]; exact ⟨rfl, rfl⟩)) HW
set_option maxHeartbeats 1000000 in
set_option maxRecDepth 100000 in
theorem k_clashing (l : Launch) (D : va_G) (ad : Nat → Nat) (K : KT) (x : Int32)  : vd_MI l y_D_clashing c_D_clashing 2 (some .boolean) 1 20 D ad [.ref (ad 30), .int x] K (fun (ans : Int32) (K' : KT) => K = K' ∧ ans = (vd_b (vd_in 0 15 x && (K 42 0).testBit x.toNatClampNeg))) := by
  refine vd_entZ (by decide) (Nat.le_of_ble_eq_true rfl) (lv := [(0, .ref (ad 30)), (1, .int x)]) rfl ?_
  intro p e s m args below meth cd ls Q CX hl H locs HW RET
  have hx := CX.1
  have hb := CX.2.1
  refine lv_iload_n hx hb d_D_clashing_0 rfl (lv_at hl 1 rfl) ?_
  refine vd_callSi (As := [.int x]) (rest := []) CX HW (k_isFile l D ad K x) mo_D_isFile wt_D_isFile ml_D_29 rfl rfl ⟨Nat.le_of_ble_eq_true rfl, Nat.le_of_ble_eq_true rfl⟩ hl.1 (Nat.le_of_ble_eq_true rfl) d_D_clashing_1 ⟨Nat.zero_le _, Nat.zero_le _⟩ (fun r1 K2 H locs q3 HW => ?_)
  obtain ⟨rfl, rfl⟩ := q3
  refine vd_ifb_eq (tgt := 22) hx hb d_D_clashing_4 (by decide) (fun c_4 => ?_) (fun c_4 => ?_)
  · refine lv_iconst (v := (nI 0)) hx hb d_D_clashing_22 (by decide) ?_
    exact RET false _ _ _ _ _ d_D_clashing_23 (by first | (refine ⟨rfl, ?_⟩; rw [c_4, nI_clamp (show f < 2 ^ 31 by omega), vd_bit1.mp c_15]; rfl) | (refine ⟨rfl, ?_⟩; rw [c_4, nI_clamp (show f < 2 ^ 31 by omega), vd_bit0.mp c_15]; rfl) | (refine ⟨rfl, ?_⟩; rw [c_4]; rfl)) HW
  · obtain ⟨f, hf1, hf2, rfl⟩ := vd_in_t c_4
    refine lv_aload_n hx hb d_D_clashing_7 rfl (lv_at hl 0 rfl) ?_
    refine vg_30_clashes CX HW lk_D_43 d_D_clashing_8 (fun b4 => ?_)
    have b4 : K 42 0 ≤ 65535 := b4
    refine lv_iconst (v := (nI 1)) hx hb d_D_clashing_11 (by decide) ?_
    refine lv_iload_n hx hb d_D_clashing_12 rfl (lv_at hl 1 rfl) ?_
    refine vd_shl1 hx hb (by omega) d_D_clashing_13 ?_
    refine vd_iand hx hb d_D_clashing_14 ?_
    have b9 : K 42 0 &&& 2 ^ f ≤ 65535 := Nat.le_trans Nat.and_le_left (by omega)
    refine vd_if_eq (tgt := 22) hx hb d_D_clashing_15 (by decide) (by omega) (fun c_15 => ?_) (fun c_15 => ?_)
    · refine lv_iconst (v := (nI 0)) hx hb d_D_clashing_22 (by decide) ?_
      exact RET false _ _ _ _ _ d_D_clashing_23 (by first | (refine ⟨rfl, ?_⟩; rw [c_4, nI_clamp (show f < 2 ^ 31 by omega), vd_bit1.mp c_15]; rfl) | (refine ⟨rfl, ?_⟩; rw [c_4, nI_clamp (show f < 2 ^ 31 by omega), vd_bit0.mp c_15]; rfl) | (refine ⟨rfl, ?_⟩; rw [c_4]; rfl)) HW
    · refine lv_iconst (v := (nI 1)) hx hb d_D_clashing_18 (by decide) ?_
      refine lv_goto (tgt := 23) hx hb d_D_clashing_19 (by decide) ?_
      exact RET true _ _ _ _ _ d_D_clashing_23 (by first | (refine ⟨rfl, ?_⟩; rw [c_4, nI_clamp (show f < 2 ^ 31 by omega), vd_bit1.mp c_15]; rfl) | (refine ⟨rfl, ?_⟩; rw [c_4, nI_clamp (show f < 2 ^ 31 by omega), vd_bit0.mp c_15]; rfl) | (refine ⟨rfl, ?_⟩; rw [c_4]; rfl)) HW
set_option maxHeartbeats 1000000 in
set_option maxRecDepth 100000 in
theorem k_count (l : Launch) (D : va_G) (ad : Nat → Nat) (K : KT) (x : Int32)  : vd_MI l y_D_count c_D_count 2 (some .int) 2 43 D ad [.ref (ad 30), .int x] K (fun (ans : Int32) (K' : KT) => K = K' ∧ ans = (vd_ct (vd_ctN K) x)) := by
  refine vd_entI (by decide) (Nat.le_of_ble_eq_true rfl) (lv := [(0, .ref (ad 30)), (1, .int x)]) rfl ?_
  intro p e s m args below meth cd ls Q CX hl H locs HW RET
  have hx := CX.1
  have hb := CX.2.1
  refine lv_iload_n hx hb d_D_count_0 rfl (lv_at hl 1 rfl) ?_
  rcases vd_sw10 x with h_sw | rfl | rfl | rfl | rfl | rfl | rfl | rfl | rfl | rfl | rfl
  · refine lv_tableOut (tgt := 133) hx hb d_D_count_1 h_sw (by decide) ?_
    refine lv_iconst (v := (-1 : Int32)) hx hb d_D_count_133 (by decide) ?_
    exact RET _ _ _ _ _ _ d_D_count_134 (by exact ⟨rfl, vd_ct_o h_sw⟩) HW
  · refine lv_tableIn (off := 55) (tgt := 56) hx hb d_D_count_1 (by decide) (by decide) rfl (by decide) ?_
    refine lv_aload_n hx hb d_D_count_56 rfl (lv_at hl 0 rfl) ?_
    refine vg_30_store CX HW lk_D_10 d_D_count_57 ?_
    refine vg_31_blobs CX HW lk_D_33 d_D_count_60 ?_
    refine vd_callVi (As := []) (rest := []) CX HW (k_bsize l D ad K) mo_B_size wi_B_size ws_B_size (vr_32 CX HW) ml_D_114 rfl rfl ⟨Nat.le_of_ble_eq_true rfl, Nat.le_of_ble_eq_true rfl⟩ hl.1 (Nat.le_of_ble_eq_true rfl) d_D_count_63 ⟨Nat.zero_le _, Nat.zero_le _⟩ (fun r1 K2 H locs q3 HW => ?_)
    obtain ⟨rfl, rfl, b4⟩ := q3
    have b4 : vd_bsz K 157 ≤ 10048 := b4
    exact RET _ _ _ _ _ _ d_D_count_66 (by exact ⟨rfl, vd_ct_i (n := vd_ctN K) (c := 0) (by decide)⟩) HW
  · refine lv_tableIn (off := 66) (tgt := 67) hx hb d_D_count_1 (by decide) (by decide) rfl (by decide) ?_
    refine lv_aload_n hx hb d_D_count_67 rfl (lv_at hl 0 rfl) ?_
    refine vg_30_store CX HW lk_D_10 d_D_count_68 ?_
    refine vg_31_folders CX HW lk_D_115 d_D_count_71 ?_
    refine vd_callVi (As := []) (rest := []) CX HW (k_rsize_33 l D ad K) mo_W_size wi_W_size ws_W_size (vr_33 CX HW) ml_D_119 rfl rfl ⟨Nat.le_of_ble_eq_true rfl, Nat.le_of_ble_eq_true rfl⟩ hl.1 (Nat.le_of_ble_eq_true rfl) d_D_count_74 ⟨Nat.zero_le _, Nat.zero_le _⟩ (fun r5 K6 H locs q7 HW => ?_)
    obtain ⟨rfl, rfl, b8⟩ := q7
    have b8 : vd_rsz K 11 45 ≤ 120 := b8
    exact RET _ _ _ _ _ _ d_D_count_77 (by exact ⟨rfl, vd_ct_i (n := vd_ctN K) (c := 1) (by decide)⟩) HW
  · refine lv_tableIn (off := 77) (tgt := 78) hx hb d_D_count_1 (by decide) (by decide) rfl (by decide) ?_
    refine lv_aload_n hx hb d_D_count_78 rfl (lv_at hl 0 rfl) ?_
    refine vg_30_store CX HW lk_D_10 d_D_count_79 ?_
    refine vg_31_roots CX HW lk_D_122 d_D_count_82 ?_
    refine vd_callVi (As := []) (rest := []) CX HW (k_rsize_34 l D ad K) mo_W_size wi_W_size ws_W_size (vr_34 CX HW) ml_D_119 rfl rfl ⟨Nat.le_of_ble_eq_true rfl, Nat.le_of_ble_eq_true rfl⟩ hl.1 (Nat.le_of_ble_eq_true rfl) d_D_count_85 ⟨Nat.zero_le _, Nat.zero_le _⟩ (fun r9 K10 H locs q11 HW => ?_)
    obtain ⟨rfl, rfl, b12⟩ := q11
    have b12 : vd_rsz K 13 46 ≤ 30 := b12
    exact RET _ _ _ _ _ _ d_D_count_88 (by exact ⟨rfl, vd_ct_i (n := vd_ctN K) (c := 2) (by decide)⟩) HW
  · refine lv_tableIn (off := 88) (tgt := 89) hx hb d_D_count_1 (by decide) (by decide) rfl (by decide) ?_
    refine lv_aload_n hx hb d_D_count_89 rfl (lv_at hl 0 rfl) ?_
    refine vg_30_store CX HW lk_D_10 d_D_count_90 ?_
    refine vd_callVi (As := []) (rest := []) CX HW (k_commits l D ad K) mo_S_commits wi_S_commits ws_S_commits (vr_31 CX HW) ml_D_125 rfl rfl ⟨Nat.le_of_ble_eq_true rfl, Nat.le_of_ble_eq_true rfl⟩ hl.1 (Nat.le_of_ble_eq_true rfl) d_D_count_93 ⟨Nat.zero_le _, Nat.zero_le _⟩ (fun r13 K14 H locs q15 HW => ?_)
    obtain ⟨rfl, rfl, b16⟩ := q15
    have b16 : vd_pc 32 (K 44 0) ≤ 32 := b16
    exact RET _ _ _ _ _ _ d_D_count_96 (by exact ⟨rfl, vd_ct_i (n := vd_ctN K) (c := 3) (by decide)⟩) HW
  · refine lv_tableIn (off := 96) (tgt := 97) hx hb d_D_count_1 (by decide) (by decide) rfl (by decide) ?_
    refine lv_aload_n hx hb d_D_count_97 rfl (lv_at hl 0 rfl) ?_
    refine vg_30_store CX HW lk_D_10 d_D_count_98 ?_
    refine vg_31_made CX HW lk_D_128 d_D_count_101 (fun b17 => ?_)
    have b17 : K 43 0 ≤ 30 := b17
    exact RET _ _ _ _ _ _ d_D_count_104 (by exact ⟨rfl, vd_ct_i (n := vd_ctN K) (c := 4) (by decide)⟩) HW
  · refine lv_tableIn (off := 104) (tgt := 105) hx hb d_D_count_1 (by decide) (by decide) rfl (by decide) ?_
    refine lv_aload_n hx hb d_D_count_105 rfl (lv_at hl 0 rfl) ?_
    refine vg_30_head CX HW lk_D_58 d_D_count_106 (fun b18 => ?_)
    have b18 : K 40 0 ≤ 5 := b18
    exact RET _ _ _ _ _ _ d_D_count_109 (by exact ⟨rfl, vd_ct_i (n := vd_ctN K) (c := 5) (by decide)⟩) HW
  · refine lv_tableIn (off := 109) (tgt := 110) hx hb d_D_count_1 (by decide) (by decide) rfl (by decide) ?_
    refine lv_aload_n hx hb d_D_count_110 rfl (lv_at hl 0 rfl) ?_
    refine vd_callVi (As := []) (rest := []) CX HW (k_here l D ad K) mo_D_here wi_D_here ws_D_here (vr_30 CX HW) ml_D_61 rfl rfl ⟨Nat.le_of_ble_eq_true rfl, Nat.le_of_ble_eq_true rfl⟩ hl.1 (Nat.le_of_ble_eq_true rfl) d_D_count_111 ⟨Nat.zero_le _, Nat.zero_le _⟩ (fun r19 K20 H locs q21 HW => ?_)
    obtain ⟨rfl, rfl, b22⟩ := q21
    have b22 : vd_here K ≤ 30 := b22
    exact RET _ _ _ _ _ _ d_D_count_114 (by exact ⟨rfl, vd_ct_i (n := vd_ctN K) (c := 6) (by decide)⟩) HW
  · refine lv_tableIn (off := 114) (tgt := 115) hx hb d_D_count_1 (by decide) (by decide) rfl (by decide) ?_
    refine lv_aload_n hx hb d_D_count_115 rfl (lv_at hl 0 rfl) ?_
    refine vg_30_merging CX HW lk_D_47 d_D_count_116 (fun b23 => ?_)
    have b23 : K 41 0 ≤ 30 := b23
    exact RET _ _ _ _ _ _ d_D_count_119 (by exact ⟨rfl, vd_ct_i (n := vd_ctN K) (c := 7) (by decide)⟩) HW
  · refine lv_tableIn (off := 119) (tgt := 120) hx hb d_D_count_1 (by decide) (by decide) rfl (by decide) ?_
    refine lv_aload_n hx hb d_D_count_120 rfl (lv_at hl 0 rfl) ?_
    refine vg_30_clashes CX HW lk_D_43 d_D_count_121 (fun b24 => ?_)
    have b24 : K 42 0 ≤ 65535 := b24
    refine vd_callSi (As := [.int (nI (K 42 0))]) (rest := []) CX HW (k_ibc l D ad K (K 42 0) (by omega)) mo_I_bitCount wt_I_bitCount ml_D_131 rfl rfl ⟨Nat.le_of_ble_eq_true rfl, Nat.le_of_ble_eq_true rfl⟩ hl.1 (Nat.le_of_ble_eq_true rfl) d_D_count_124 ⟨Nat.zero_le _, Nat.zero_le _⟩ (fun r25 K26 H locs q27 HW => ?_)
    obtain ⟨rfl, rfl, b28⟩ := q27
    have b28 : vd_pc 32 (K 42 0) ≤ 32 := b28
    exact RET _ _ _ _ _ _ d_D_count_127 (by exact ⟨rfl, vd_ct_i (n := vd_ctN K) (c := 8) (by decide)⟩) HW
  · refine lv_tableIn (off := 127) (tgt := 128) hx hb d_D_count_1 (by decide) (by decide) rfl (by decide) ?_
    refine lv_aload_n hx hb d_D_count_128 rfl (lv_at hl 0 rfl) ?_
    refine vd_callVi (As := []) (rest := []) CX HW (k_unstaged l D ad K) mo_D_unstaged wi_D_unstaged ws_D_unstaged (vr_30 CX HW) ml_D_136 rfl rfl ⟨Nat.le_of_ble_eq_true rfl, Nat.le_of_ble_eq_true rfl⟩ hl.1 (Nat.le_of_ble_eq_true rfl) d_D_count_129 ⟨Nat.zero_le _, Nat.zero_le _⟩ (fun r29 K30 H locs q31 HW => ?_)
    obtain ⟨rfl, rfl, b32⟩ := q31
    have b32 : vd_un K ≤ 16 := b32
    exact RET _ _ _ _ _ _ d_D_count_132 (by exact ⟨rfl, vd_ct_i (n := vd_ctN K) (c := 9) (by decide)⟩) HW
