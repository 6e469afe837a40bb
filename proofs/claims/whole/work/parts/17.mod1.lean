set_option maxHeartbeats 1000000 in
set_option maxRecDepth 100000 in
theorem j_in (l : Launch) (D : va_G) (ad : Nat → Nat) (K : KT) (v : Int32) (lo : Nat) (hi : Nat) (hlo : lo < 2 ^ 31) (hhi : hi < 2 ^ 31) : vd_MI l y_M_in c_M_in 3 (some .boolean) 0 0 D ad [.int v, .int (nI lo), .int (nI hi)] K (fun (ans : Int32) (K' : KT) => K = K' ∧ ans = (vd_b (vd_in lo hi v))) := by
  refine vd_entZ (by decide) (Nat.le_of_ble_eq_true rfl) (lv := [(0, .int v), (1, .int (nI lo)), (2, .int (nI hi))]) rfl ?_
  intro p e s m args below meth cd ls Q CX hl H locs HW RET
  have hx := CX.1
  have hb := CX.2.1
  refine lv_iload_n hx hb d_M_in_0 rfl (lv_at hl 0 rfl) ?_
  refine lv_iload_n hx hb d_M_in_1 rfl (lv_at hl 1 rfl) ?_
  refine lv_icmp_lt (tgt := 14) hx hb d_M_in_2 (by decide) (fun c_2 => ?_) (fun c_2 => ?_)
  · refine lv_iconst (v := (nI 0)) hx hb d_M_in_14 (by decide) ?_
    exact RET false _ _ _ _ _ d_M_in_15 (by first | (rw [vd_gtI hhi] at c_7; (refine ⟨rfl, ?_⟩; (· rw [vd_in_h (by omega)]))) | (rw [vd_ltI hlo] at c_2; (refine ⟨rfl, ?_⟩; (· rw [vd_in_l (by omega)])))) HW
  · refine lv_iload_n hx hb d_M_in_5 rfl (lv_at hl 0 rfl) ?_
    refine lv_iload_n hx hb d_M_in_6 rfl (lv_at hl 2 rfl) ?_
    refine lv_icmp_gt (tgt := 14) hx hb d_M_in_7 (by decide) (fun c_7 => ?_) (fun c_7 => ?_)
    · refine lv_iconst (v := (nI 0)) hx hb d_M_in_14 (by decide) ?_
      exact RET false _ _ _ _ _ d_M_in_15 (by first | (rw [vd_gtI hhi] at c_7; (refine ⟨rfl, ?_⟩; (· rw [vd_in_h (by omega)]))) | (rw [vd_ltI hlo] at c_2; (refine ⟨rfl, ?_⟩; (· rw [vd_in_l (by omega)])))) HW
    · refine lv_iconst (v := (nI 1)) hx hb d_M_in_10 (by decide) ?_
      refine lv_goto (tgt := 15) hx hb d_M_in_11 (by decide) ?_
      exact RET true _ _ _ _ _ d_M_in_15 (by rw [vd_ltI hlo] at c_2; rw [vd_gtI hhi] at c_7; (refine ⟨rfl, ?_⟩; (· rw [vd_in_y (by omega) (by omega)]))) HW
set_option maxHeartbeats 1000000 in
set_option maxRecDepth 100000 in
theorem j_here (l : Launch) (D : va_G) (ad : Nat → Nat) (K : KT)   : vd_MI l y_M_here c_M_here 1 (some .int) 0 0 D ad [.ref (ad 35)] K (fun (ans : Int32) (K' : KT) => K = K' ∧ ans = (nI (vd_hereM K)) ∧ vd_hereM K ≤ 30) := by
  refine vd_entI (by decide) (Nat.le_of_ble_eq_true rfl) (lv := [(0, .ref (ad 35))]) rfl ?_
  intro p e s m args below meth cd ls Q CX hl H locs HW RET
  have hx := CX.1
  have hb := CX.2.1
  refine lv_aload_n hx hb d_M_here_0 rfl (lv_at hl 0 rfl) ?_
  refine vg_35_branch CX HW lk_M_23 d_M_here_1 ?_
  refine lv_aload_n hx hb d_M_here_4 rfl (lv_at hl 0 rfl) ?_
  refine vg_35_head CX HW lk_M_38 d_M_here_5 (fun b1 => ?_)
  have b1 : K 48 0 ≤ 5 := b1
  refine vd_iald CX HW (j := 18) (i := (K 48 0)) rfl (show K 48 0 < 6 by omega) d_M_here_8 (fun b2 => ?_)
  have b2 : K 18 (K 48 0) ≤ 30 := b2
  exact RET _ _ _ _ _ _ d_M_here_9 (by (refine ⟨rfl, rfl, ?_⟩; (· unfold vd_hereM; omega))) HW
set_option maxHeartbeats 1000000 in
set_option maxRecDepth 100000 in
theorem j_isStored (l : Launch) (D : va_G) (ad : Nat → Nat) (K : KT) (x : Int32)  : vd_MI l y_M_isStored c_M_isStored 2 (some .boolean) 1 22 D ad [.ref (ad 35), .int x] K (fun (ans : Int32) (K' : KT) => K = K' ∧ ans = (vd_b (vd_stoM K x))) := by
  refine vd_entZ (by decide) (Nat.le_of_ble_eq_true rfl) (lv := [(0, .ref (ad 35)), (1, .int x)]) rfl ?_
  intro p e s m args below meth cd ls Q CX hl H locs HW RET
  have hx := CX.1
  have hb := CX.2.1
  refine lv_iload_n hx hb d_M_isStored_0 rfl (lv_at hl 1 rfl) ?_
  refine lv_iconst (v := (nI 1)) hx hb d_M_isStored_1 (by decide) ?_
  refine lv_bipush (v := (nI 30)) hx hb d_M_isStored_2 (by decide) ?_
  refine vd_callSi (As := [.int x, .int (nI 1), .int (nI 30)]) (rest := []) CX HW (j_in l D ad K x 1 30 (by omega) (by omega)) mo_M_in wt_M_in ml_M_42 rfl rfl ⟨Nat.le_of_ble_eq_true rfl, Nat.le_of_ble_eq_true rfl⟩ hl.1 (Nat.le_of_ble_eq_true rfl) d_M_isStored_4 ⟨Nat.zero_le _, Nat.zero_le _⟩ (fun r1 K2 H locs q3 HW => ?_)
  obtain ⟨rfl, rfl⟩ := q3
  refine vd_ifb_eq (tgt := 23) hx hb d_M_isStored_7 (by decide) (fun c_7 => ?_) (fun c_7 => ?_)
  · refine lv_iconst (v := (nI 0)) hx hb d_M_isStored_23 (by decide) ?_
    exact RET false _ _ _ _ _ d_M_isStored_24 (by first | (refine ⟨rfl, ?_⟩; unfold vd_stoM; rw [c_7, nI_clamp (show c < 2 ^ 31 by omega), c_16]; rfl) | (refine ⟨rfl, ?_⟩; unfold vd_stoM; rw [c_7]; rfl)) HW
  · obtain ⟨c, hc1, hc2, rfl⟩ := vd_in_t c_7
    refine lv_aload_n hx hb d_M_isStored_10 rfl (lv_at hl 0 rfl) ?_
    refine vg_35_stored CX HW lk_M_13 d_M_isStored_11 ?_
    refine lv_iload_n hx hb d_M_isStored_14 rfl (lv_at hl 1 rfl) ?_
    refine vd_zald CX HW (j := 15) (i := c) rfl (show c < 31 by omega) d_M_isStored_15 (fun b4 => ?_)
    have b4 : K 15 c ≤ 1 := b4
    refine vd_if_eq (tgt := 23) hx hb d_M_isStored_16 (by decide) (by omega) (fun c_16 => ?_) (fun c_16 => ?_)
    · refine lv_iconst (v := (nI 0)) hx hb d_M_isStored_23 (by decide) ?_
      exact RET false _ _ _ _ _ d_M_isStored_24 (by first | (refine ⟨rfl, ?_⟩; unfold vd_stoM; rw [c_7, nI_clamp (show c < 2 ^ 31 by omega), c_16]; rfl) | (refine ⟨rfl, ?_⟩; unfold vd_stoM; rw [c_7]; rfl)) HW
    · refine lv_iconst (v := (nI 1)) hx hb d_M_isStored_19 (by decide) ?_
      refine lv_goto (tgt := 24) hx hb d_M_isStored_20 (by decide) ?_
      exact RET true _ _ _ _ _ d_M_isStored_24 (by refine ⟨rfl, ?_⟩; unfold vd_stoM; rw [c_7, nI_clamp (show c < 2 ^ 31 by omega), vd_bne c_16]; rfl) HW
set_option maxHeartbeats 1000000 in
set_option maxRecDepth 100000 in
theorem j_same (l : Launch) (D : va_G) (ad : Nat → Nat) (K : KT) (a : Nat) (b : Nat) (ha : a ≤ 33) (hb2 : b ≤ 33) : vd_MI l y_M_same c_M_same 4 (some .boolean) 0 0 D ad [.ref (ad 35), .int (nI a), .int (nI b)] K (fun (ans : Int32) (K' : KT) => K = K' ∧ ans = (vd_b (vd_same K a b))) := by
  refine vd_entZ (by decide) (Nat.le_of_ble_eq_true rfl) (lv := [(0, .ref (ad 35)), (1, .int (nI a)), (2, .int (nI b))]) rfl ?_
  intro p e s m args below meth cd ls Q CX hl H locs HW RET
  have hx := CX.1
  have hb := CX.2.1
  refine lv_iconst (v := (nI 0)) hx hb d_M_same_0 (by decide) ?_
  refine lv_istore_n (lv' := [(3, .int (nI 0)), (0, .ref (ad 35)), (1, .int (nI a)), (2, .int (nI b))]) hx hb d_M_same_1 rfl hl (by decide) rfl (fun ls hl => ?_)
  have loop2 : ∀ (n : Nat) (i : Nat), (∀ q, q < i → K 14 (16 * a + q) = K 14 (16 * b + q)) → (i ≤ 16) → (16 < i + n) → ∀ (H : Heap) (locs : List Loc) (ls : Array Slot), vd_WS D ad s K H locs → lv_has ls 4 [(0, .ref (ad 35)), (1, .int (nI a)), (2, .int (nI b)), (3, .int (nI i))] → W p l e (vd_R 0 0) s m args below meth cd H locs 0 0 Q (F0 m 2 ls []) := by
    intro n
    induction n with
    | zero => intro i hi hi4 hm; exfalso; omega
    | succ n ih2 =>
      intro i hi hi4 hm H locs ls HW hl
      refine lv_iload_n hx hb d_M_same_2 rfl (lv_at hl 3 rfl) ?_
      refine lv_bipush (v := (nI 16)) hx hb d_M_same_3 (by decide) ?_
      refine vd_icmp_ge (tgt := 41) hx hb d_M_same_5 (by decide) (by omega) (by omega) (fun c_5 => ?_) (fun c_5 => ?_)
      · refine lv_iconst (v := (nI 1)) hx hb d_M_same_41 (by decide) ?_
        exact RET true _ _ _ _ _ d_M_same_42 (by (refine ⟨rfl, ?_⟩; (· rw [show vd_same K a b = true from vd_eqn_t (fun q hq => hi q (by omega))]))) HW
      · refine lv_aload_n hx hb d_M_same_8 rfl (lv_at hl 0 rfl) ?_
        refine vg_35_content CX HW lk_M_7 d_M_same_9 ?_
        refine lv_bipush (v := (nI 16)) hx hb d_M_same_12 (by decide) ?_
        refine lv_iload_n hx hb d_M_same_14 rfl (lv_at hl 1 rfl) ?_
        refine vd_imul hx hb d_M_same_15 ?_
        refine lv_iload_n hx hb d_M_same_16 rfl (lv_at hl 3 rfl) ?_
        refine vd_iadd hx hb d_M_same_17 ?_
        refine vd_iald CX HW (j := 14) (i := ((16 * a) + i)) rfl (show (16 * a) + i < 544 by omega) d_M_same_18 (fun b1 => ?_)
        have b1 : K 14 ((16 * a) + i) ≤ 9999 := b1
        refine lv_aload_n hx hb d_M_same_19 rfl (lv_at hl 0 rfl) ?_
        refine vg_35_content CX HW lk_M_7 d_M_same_20 ?_
        refine lv_bipush (v := (nI 16)) hx hb d_M_same_23 (by decide) ?_
        refine lv_iload_n hx hb d_M_same_25 rfl (lv_at hl 2 rfl) ?_
        refine vd_imul hx hb d_M_same_26 ?_
        refine lv_iload_n hx hb d_M_same_27 rfl (lv_at hl 3 rfl) ?_
        refine vd_iadd hx hb d_M_same_28 ?_
        refine vd_iald CX HW (j := 14) (i := ((16 * b) + i)) rfl (show (16 * b) + i < 544 by omega) d_M_same_29 (fun b2 => ?_)
        have b2 : K 14 ((16 * b) + i) ≤ 9999 := b2
        refine vd_icmp_eq (tgt := 35) hx hb d_M_same_30 (by decide) (by omega) (by omega) (fun c_30 => ?_) (fun c_30 => ?_)
        · refine lv_iinc (v := (nI (i + 1))) (lv' := [(3, .int (nI (i + 1))), (0, .ref (ad 35)), (1, .int (nI a)), (2, .int (nI b))]) hx hb d_M_same_35 hl (k := 3) rfl (vd_inc _ 1) (by decide) rfl (fun ls hl => ?_)
          refine lv_goto (tgt := 2) hx hb d_M_same_38 (by decide) ?_
          exact ih2 (i + 1) (by intro q hq; by_cases e1 : q = i; (· subst e1; exact c_30); (· exact hi q (by omega))) (by omega) (by omega) H locs ls HW (lv_sub hl [1, 2, 3, 0] rfl)
        · refine lv_iconst (v := (nI 0)) hx hb d_M_same_33 (by decide) ?_
          exact RET false _ _ _ _ _ d_M_same_34 (by (refine ⟨rfl, ?_⟩; (· rw [show vd_same K a b = false from vd_eqn_f (fun h => c_30 (h i (by omega)))]))) HW
  exact loop2 17 0 (by intro q hq; omega) (by omega) (by omega) H locs ls HW (lv_sub hl [1, 2, 3, 0] rfl)
set_option maxHeartbeats 1000000 in
set_option maxRecDepth 100000 in
theorem j_copy (l : Launch) (D : va_G) (ad : Nat → Nat) (K : KT) (a : Nat) (b : Nat) (ha : a ≤ 33) (hb2 : b ≤ 33) : vd_MV l y_M_copy c_M_copy 4 0 0 D ad [.ref (ad 35), .int (nI a), .int (nI b)] K (fun (K' : KT) => K' = vd_cp K a b) := by
  refine vd_entV (by decide) (Nat.le_of_ble_eq_true rfl) (lv := [(0, .ref (ad 35)), (1, .int (nI a)), (2, .int (nI b))]) rfl ?_
  intro p e s m args below meth cd ls Q CX hl H locs HW RET
  have hx := CX.1
  have hb := CX.2.1
  refine lv_iconst (v := (nI 0)) hx hb d_M_copy_0 (by decide) ?_
  refine lv_istore_n (lv' := [(3, .int (nI 0)), (0, .ref (ad 35)), (1, .int (nI a)), (2, .int (nI b))]) hx hb d_M_copy_1 rfl hl (by decide) rfl (fun ls hl => ?_)
  have loop2 : ∀ (n : Nat) (i : Nat) (Kl : KT), (Kl = vd_fl K 14 (16 * b) i (fun f => K 14 (16 * a + f))) → (i ≤ 16) → (16 < i + n) → ∀ (H : Heap) (locs : List Loc) (ls : Array Slot), vd_WS D ad s Kl H locs → lv_has ls 4 [(0, .ref (ad 35)), (1, .int (nI a)), (2, .int (nI b)), (3, .int (nI i))] → W p l e (vd_R 0 0) s m args below meth cd H locs 0 0 Q (F0 m 2 ls []) := by
    intro n
    induction n with
    | zero => intro i Kl hk hi hm; exfalso; omega
    | succ n ih2 =>
      intro i Kl hk hi hm H locs ls HW hl
      refine lv_iload_n hx hb d_M_copy_2 rfl (lv_at hl 3 rfl) ?_
      refine lv_bipush (v := (nI 16)) hx hb d_M_copy_3 (by decide) ?_
      refine vd_icmp_ge (tgt := 36) hx hb d_M_copy_5 (by decide) (by omega) (by omega) (fun c_5 => ?_) (fun c_5 => ?_)
      · exact RET _ _ _ _ _ d_M_copy_36 (by rw [hk, show i = 16 by omega]; rfl) HW
      · refine lv_aload_n hx hb d_M_copy_8 rfl (lv_at hl 0 rfl) ?_
        refine vg_35_content CX HW lk_M_7 d_M_copy_9 ?_
        refine lv_bipush (v := (nI 16)) hx hb d_M_copy_12 (by decide) ?_
        refine lv_iload_n hx hb d_M_copy_14 rfl (lv_at hl 2 rfl) ?_
        refine vd_imul hx hb d_M_copy_15 ?_
        refine lv_iload_n hx hb d_M_copy_16 rfl (lv_at hl 3 rfl) ?_
        refine vd_iadd hx hb d_M_copy_17 ?_
        refine lv_aload_n hx hb d_M_copy_18 rfl (lv_at hl 0 rfl) ?_
        refine vg_35_content CX HW lk_M_7 d_M_copy_19 ?_
        refine lv_bipush (v := (nI 16)) hx hb d_M_copy_22 (by decide) ?_
        refine lv_iload_n hx hb d_M_copy_24 rfl (lv_at hl 1 rfl) ?_
        refine vd_imul hx hb d_M_copy_25 ?_
        refine lv_iload_n hx hb d_M_copy_26 rfl (lv_at hl 3 rfl) ?_
        refine vd_iadd hx hb d_M_copy_27 ?_
        refine vd_iald CX HW (j := 14) (i := ((16 * a) + i)) rfl (show (16 * a) + i < 544 by omega) d_M_copy_28 (fun b1 => ?_)
        have b1 : Kl 14 ((16 * a) + i) ≤ 9999 := b1
        refine vd_iast CX HW (j := 14) (i := ((16 * b) + i)) (x := (Kl 14 ((16 * a) + i))) rfl (show (16 * b) + i < 544 by omega) (show Kl 14 ((16 * a) + i) ≤ 9999 by omega) d_M_copy_29 (fun K2 H locs eK2 HW => ?_)
        refine lv_iinc (v := (nI (i + 1))) (lv' := [(3, .int (nI (i + 1))), (0, .ref (ad 35)), (1, .int (nI a)), (2, .int (nI b))]) hx hb d_M_copy_30 hl (k := 3) rfl (vd_inc _ 1) (by decide) rfl (fun ls hl => ?_)
        refine lv_goto (tgt := 2) hx hb d_M_copy_33 (by decide) ?_
        exact ih2 (i + 1) K2 (by exact vd_fl_step hk eK2 rfl (by rw [hk, vd_fl_i]; exact if_neg (by omega))) (by omega) (by omega) H locs ls HW (lv_sub hl [1, 2, 3, 0] rfl)
  exact loop2 17 0 K (by rw [vd_fl_0]) (by omega) (by omega) H locs ls HW (lv_sub hl [1, 2, 3, 0] rfl)
set_option maxHeartbeats 1000000 in
set_option maxRecDepth 100000 in
theorem j_show (l : Launch) (D : va_G) (ad : Nat → Nat) (K : KT) (a : Nat) (ha : a ≤ 33) : vd_MV l y_M_show c_M_show 2 1 23 D ad [.ref (ad 35), .int (nI a)] K (fun (K' : KT) => K' = vd_shw K a) := by
  refine vd_entV (by decide) (Nat.le_of_ble_eq_true rfl) (lv := [(0, .ref (ad 35)), (1, .int (nI a))]) rfl ?_
  intro p e s m args below meth cd ls Q CX hl H locs HW RET
  have hx := CX.1
  have hb := CX.2.1
  refine lv_aload_n hx hb d_M_show_0 rfl (lv_at hl 0 rfl) ?_
  refine lv_iload_n hx hb d_M_show_1 rfl (lv_at hl 1 rfl) ?_
  refine lv_bipush (v := (nI 32)) hx hb d_M_show_2 (by decide) ?_
  refine vd_callVv (As := [.int (nI a), .int (nI 32)]) (rest := []) CX HW (j_copy l D ad K a 32 (by omega) (by omega)) mo_M_copy wi_M_copy ws_M_copy (vr_35 CX HW) ml_M_46 rfl rfl ⟨Nat.le_of_ble_eq_true rfl, Nat.le_of_ble_eq_true rfl⟩ hl.1 (Nat.le_of_ble_eq_true rfl) d_M_show_4 ⟨Nat.zero_le _, Nat.zero_le _⟩ (fun K2 H locs q3 HW => ?_)
  have eK2 := q3
  refine lv_aload_n hx hb d_M_show_7 rfl (lv_at hl 0 rfl) ?_
  refine lv_iload_n hx hb d_M_show_8 rfl (lv_at hl 1 rfl) ?_
  refine lv_bipush (v := (nI 31)) hx hb d_M_show_9 (by decide) ?_
  refine vd_callVv (As := [.int (nI a), .int (nI 31)]) (rest := []) CX HW (j_copy l D ad K2 a 31 (by omega) (by omega)) mo_M_copy wi_M_copy ws_M_copy (vr_35 CX HW) ml_M_46 rfl rfl ⟨Nat.le_of_ble_eq_true rfl, Nat.le_of_ble_eq_true rfl⟩ hl.1 (Nat.le_of_ble_eq_true rfl) d_M_show_11 ⟨Nat.zero_le _, Nat.zero_le _⟩ (fun K5 H locs q6 HW => ?_)
  have eK5 := q6
  exact RET _ _ _ _ _ d_M_show_14 (by subst_vars; rfl) HW
set_option maxHeartbeats 1000000 in
set_option maxRecDepth 100000 in
theorem j_tidy (l : Launch) (D : va_G) (ad : Nat → Nat) (K : KT)   : vd_MI l y_M_tidy c_M_tidy 1 (some .boolean) 1 23 D ad [.ref (ad 35)] K (fun (ans : Int32) (K' : KT) => K = K' ∧ ans = (vd_b (vd_tidyM K))) := by
  refine vd_entZ (by decide) (Nat.le_of_ble_eq_true rfl) (lv := [(0, .ref (ad 35))]) rfl ?_
  intro p e s m args below meth cd ls Q CX hl H locs HW RET
  have hx := CX.1
  have hb := CX.2.1
  refine lv_aload_n hx hb d_M_tidy_0 rfl (lv_at hl 0 rfl) ?_
  refine lv_bipush (v := (nI 31)) hx hb d_M_tidy_1 (by decide) ?_
  refine lv_bipush (v := (nI 32)) hx hb d_M_tidy_3 (by decide) ?_
  refine vd_callVi (As := [.int (nI 31), .int (nI 32)]) (rest := []) CX HW (j_same l D ad K 31 32 (by omega) (by omega)) mo_M_same wi_M_same ws_M_same (vr_35 CX HW) ml_M_50 rfl rfl ⟨Nat.le_of_ble_eq_true rfl, Nat.le_of_ble_eq_true rfl⟩ hl.1 (Nat.le_of_ble_eq_true rfl) d_M_tidy_5 ⟨Nat.zero_le _, Nat.zero_le _⟩ (fun r1 K2 H locs q3 HW => ?_)
  obtain ⟨rfl, rfl⟩ := q3
  refine vd_ifb_eq (tgt := 28) hx hb d_M_tidy_8 (by decide) (fun c_8 => ?_) (fun c_8 => ?_)
  · refine lv_iconst (v := (nI 0)) hx hb d_M_tidy_28 (by decide) ?_
    exact RET false _ _ _ _ _ d_M_tidy_29 (by first | (refine ⟨rfl, ?_⟩; unfold vd_tidyM; rw [c_8, c_21]; rfl) | (refine ⟨rfl, ?_⟩; unfold vd_tidyM; rw [c_8]; rfl)) HW
  · refine lv_aload_n hx hb d_M_tidy_11 rfl (lv_at hl 0 rfl) ?_
    refine lv_bipush (v := (nI 32)) hx hb d_M_tidy_12 (by decide) ?_
    refine lv_aload_n hx hb d_M_tidy_14 rfl (lv_at hl 0 rfl) ?_
    refine vd_callVi (As := []) (rest := [.int (nI 32), .ref (ad 35)]) CX HW (j_here l D ad K) mo_M_here wi_M_here ws_M_here (vr_35 CX HW) ml_M_54 rfl rfl ⟨Nat.le_of_ble_eq_true rfl, Nat.le_of_ble_eq_true rfl⟩ hl.1 (Nat.le_of_ble_eq_true rfl) d_M_tidy_15 ⟨Nat.zero_le _, Nat.zero_le _⟩ (fun r4 K5 H locs q6 HW => ?_)
    obtain ⟨rfl, rfl, b7⟩ := q6
    have b7 : vd_hereM K ≤ 30 := b7
    refine vd_callVi (As := [.int (nI 32), .int (nI (vd_hereM K))]) (rest := []) CX HW (j_same l D ad K 32 (vd_hereM K) (by omega) (by omega)) mo_M_same wi_M_same ws_M_same (vr_35 CX HW) ml_M_50 rfl rfl ⟨Nat.le_of_ble_eq_true rfl, Nat.le_of_ble_eq_true rfl⟩ hl.1 (Nat.le_of_ble_eq_true rfl) d_M_tidy_18 ⟨Nat.zero_le _, Nat.zero_le _⟩ (fun r8 K9 H locs q10 HW => ?_)
    obtain ⟨rfl, rfl⟩ := q10
    refine vd_ifb_eq (tgt := 28) hx hb d_M_tidy_21 (by decide) (fun c_21 => ?_) (fun c_21 => ?_)
    · refine lv_iconst (v := (nI 0)) hx hb d_M_tidy_28 (by decide) ?_
      exact RET false _ _ _ _ _ d_M_tidy_29 (by first | (refine ⟨rfl, ?_⟩; unfold vd_tidyM; rw [c_8, c_21]; rfl) | (refine ⟨rfl, ?_⟩; unfold vd_tidyM; rw [c_8]; rfl)) HW
    · refine lv_iconst (v := (nI 1)) hx hb d_M_tidy_24 (by decide) ?_
      refine lv_goto (tgt := 29) hx hb d_M_tidy_25 (by decide) ?_
      exact RET true _ _ _ _ _ d_M_tidy_29 (by first | (refine ⟨rfl, ?_⟩; unfold vd_tidyM; rw [c_8, c_21]; rfl) | (refine ⟨rfl, ?_⟩; unfold vd_tidyM; rw [c_8]; rfl)) HW
set_option maxHeartbeats 1000000 in
set_option maxRecDepth 100000 in
theorem j_write (l : Launch) (D : va_G) (ad : Nat → Nat) (K : KT) (x : Int32) (y : Int32)  : vd_MI l y_M_write c_M_write 3 (some .int) 1 22 D ad [.ref (ad 35), .int x, .int y] K (fun (ans : Int32) (K' : KT) => K' = (if (vd_in 0 15 x && vd_in 0 9999 y) = true then vd_st K 14 (496 + x.toNatClampNeg) y.toNatClampNeg else K) ∧ ans = (if (vd_in 0 15 x && vd_in 0 9999 y) = true then nI 0 else (-1 : Int32))) := by
  refine vd_entI (by decide) (Nat.le_of_ble_eq_true rfl) (lv := [(0, .ref (ad 35)), (1, .int x), (2, .int y)]) rfl ?_
  intro p e s m args below meth cd ls Q CX hl H locs HW RET
  have hx := CX.1
  have hb := CX.2.1
  refine lv_iload_n hx hb d_M_write_0 rfl (lv_at hl 1 rfl) ?_
  refine lv_iconst (v := (nI 0)) hx hb d_M_write_1 (by decide) ?_
  refine lv_bipush (v := (nI 15)) hx hb d_M_write_2 (by decide) ?_
  refine vd_callSi (As := [.int x, .int (nI 0), .int (nI 15)]) (rest := []) CX HW (j_in l D ad K x 0 15 (by omega) (by omega)) mo_M_in wt_M_in ml_M_42 rfl rfl ⟨Nat.le_of_ble_eq_true rfl, Nat.le_of_ble_eq_true rfl⟩ hl.1 (Nat.le_of_ble_eq_true rfl) d_M_write_4 ⟨Nat.zero_le _, Nat.zero_le _⟩ (fun r1 K2 H locs q3 HW => ?_)
  obtain ⟨rfl, rfl⟩ := q3
  refine vd_ifb_eq (tgt := 21) hx hb d_M_write_7 (by decide) (fun c_7 => ?_) (fun c_7 => ?_)
  · refine lv_iconst (v := (-1 : Int32)) hx hb d_M_write_21 (by decide) ?_
    exact RET _ _ _ _ _ _ d_M_write_22 (by first | (have h90 : ¬ ((vd_in 0 15 x && vd_in 0 9999 y) = true) := (by rw [c_18]; simp); rw [if_neg h90, if_neg h90]; exact ⟨rfl, rfl⟩) | (have h90 : ¬ ((vd_in 0 15 x && vd_in 0 9999 y) = true) := (by rw [c_7]; simp); rw [if_neg h90, if_neg h90]; exact ⟨rfl, rfl⟩)) HW
  · refine lv_iload_n hx hb d_M_write_10 rfl (lv_at hl 2 rfl) ?_
    refine lv_iconst (v := (nI 0)) hx hb d_M_write_11 (by decide) ?_
    refine lv_sipush (v := (nI 9999)) hx hb d_M_write_12 (by decide) ?_
    refine vd_callSi (As := [.int y, .int (nI 0), .int (nI 9999)]) (rest := []) CX HW (j_in l D ad K y 0 9999 (by omega) (by omega)) mo_M_in wt_M_in ml_M_42 rfl rfl ⟨Nat.le_of_ble_eq_true rfl, Nat.le_of_ble_eq_true rfl⟩ hl.1 (Nat.le_of_ble_eq_true rfl) d_M_write_15 ⟨Nat.zero_le _, Nat.zero_le _⟩ (fun r4 K5 H locs q6 HW => ?_)
    obtain ⟨rfl, rfl⟩ := q6
    refine vd_ifb_ne (tgt := 23) hx hb d_M_write_18 (by decide) (fun c_18 => ?_) (fun c_18 => ?_)
    · obtain ⟨f, hf1, hf2, rfl⟩ := vd_in_t c_7
      obtain ⟨g, hg1, hg2, rfl⟩ := vd_in_t c_18
      refine lv_aload_n hx hb d_M_write_23 rfl (lv_at hl 0 rfl) ?_
      refine vg_35_content CX HW lk_M_7 d_M_write_24 ?_
      refine lv_sipush (v := (nI 496)) hx hb d_M_write_27 (by decide) ?_
      refine lv_iload_n hx hb d_M_write_30 rfl (lv_at hl 1 rfl) ?_
      refine vd_iadd hx hb d_M_write_31 ?_
      refine lv_iload_n hx hb d_M_write_32 rfl (lv_at hl 2 rfl) ?_
      refine vd_iast CX HW (j := 14) (i := (496 + f)) (x := g) rfl (show 496 + f < 544 by omega) (show g ≤ 9999 by omega) d_M_write_33 (fun K7 H locs eK7 HW => ?_)
      refine lv_iconst (v := (nI 0)) hx hb d_M_write_34 (by decide) ?_
      exact RET _ _ _ _ _ _ d_M_write_35 (by have h90 : (vd_in 0 15 (nI f) && vd_in 0 9999 (nI g)) = true := (by rw [c_7, c_18]; rfl); rw [nI_clamp (show f < 2 ^ 31 by omega)]; rw [nI_clamp (show g < 2 ^ 31 by omega)]; rw [if_pos h90, if_pos h90]; subst_vars; exact ⟨rfl, rfl⟩) HW
    · refine lv_iconst (v := (-1 : Int32)) hx hb d_M_write_21 (by decide) ?_
      exact RET _ _ _ _ _ _ d_M_write_22 (by first | (have h90 : ¬ ((vd_in 0 15 x && vd_in 0 9999 y) = true) := (by rw [c_18]; simp); rw [if_neg h90, if_neg h90]; exact ⟨rfl, rfl⟩) | (have h90 : ¬ ((vd_in 0 15 x && vd_in 0 9999 y) = true) := (by rw [c_7]; simp); rw [if_neg h90, if_neg h90]; exact ⟨rfl, rfl⟩)) HW
set_option maxHeartbeats 1000000 in
set_option maxRecDepth 100000 in
theorem j_stage (l : Launch) (D : va_G) (ad : Nat → Nat) (K : KT) (x : Int32)  : vd_MI l y_M_stage c_M_stage 3 (some .int) 1 22 D ad [.ref (ad 35), .int x] K (fun (ans : Int32) (K' : KT) => K' = (if vd_in 0 15 x = true then vd_st (vd_bl (vd_st K 14 (512 + x.toNatClampNeg) (K 14 (496 + x.toNatClampNeg))) (K 14 (496 + x.toNatClampNeg))) 19 x.toNatClampNeg 0 else K) ∧ ans = (if vd_in 0 15 x = true then nI 0 else (-1 : Int32))) := by
  refine vd_entI (by decide) (Nat.le_of_ble_eq_true rfl) (lv := [(0, .ref (ad 35)), (1, .int x)]) rfl ?_
  intro p e s m args below meth cd ls Q CX hl H locs HW RET
  have hx := CX.1
  have hb := CX.2.1
  refine lv_iload_n hx hb d_M_stage_0 rfl (lv_at hl 1 rfl) ?_
  refine lv_iconst (v := (nI 0)) hx hb d_M_stage_1 (by decide) ?_
  refine lv_bipush (v := (nI 15)) hx hb d_M_stage_2 (by decide) ?_
  refine vd_callSi (As := [.int x, .int (nI 0), .int (nI 15)]) (rest := []) CX HW (j_in l D ad K x 0 15 (by omega) (by omega)) mo_M_in wt_M_in ml_M_42 rfl rfl ⟨Nat.le_of_ble_eq_true rfl, Nat.le_of_ble_eq_true rfl⟩ hl.1 (Nat.le_of_ble_eq_true rfl) d_M_stage_4 ⟨Nat.zero_le _, Nat.zero_le _⟩ (fun r1 K2 H locs q3 HW => ?_)
  obtain ⟨rfl, rfl⟩ := q3
  refine vd_ifb_ne (tgt := 12) hx hb d_M_stage_7 (by decide) (fun c_7 => ?_) (fun c_7 => ?_)
  · obtain ⟨f, hf1, hf2, rfl⟩ := vd_in_t c_7
    refine lv_aload_n hx hb d_M_stage_12 rfl (lv_at hl 0 rfl) ?_
    refine vg_35_content CX HW lk_M_7 d_M_stage_13 ?_
    refine lv_sipush (v := (nI 496)) hx hb d_M_stage_16 (by decide) ?_
    refine lv_iload_n hx hb d_M_stage_19 rfl (lv_at hl 1 rfl) ?_
    refine vd_iadd hx hb d_M_stage_20 ?_
    refine vd_iald CX HW (j := 14) (i := (496 + f)) rfl (show 496 + f < 544 by omega) d_M_stage_21 (fun b4 => ?_)
    have b4 : K 14 (496 + f) ≤ 9999 := b4
    refine lv_istore_n (lv' := [(2, .int (nI (K 14 (496 + f)))), (0, .ref (ad 35)), (1, .int (nI f))]) hx hb d_M_stage_22 rfl hl (by decide) rfl (fun ls hl => ?_)
    refine lv_aload_n hx hb d_M_stage_23 rfl (lv_at hl 1 rfl) ?_
    refine vg_35_content CX HW lk_M_7 d_M_stage_24 ?_
    refine lv_sipush (v := (nI 512)) hx hb d_M_stage_27 (by decide) ?_
    refine lv_iload_n hx hb d_M_stage_30 rfl (lv_at hl 2 rfl) ?_
    refine vd_iadd hx hb d_M_stage_31 ?_
    refine lv_iload_n hx hb d_M_stage_32 rfl (lv_at hl 0 rfl) ?_
    refine vd_iast CX HW (j := 14) (i := (512 + f)) (x := (K 14 (496 + f))) rfl (show 512 + f < 544 by omega) (show K 14 (496 + f) ≤ 9999 by omega) d_M_stage_33 (fun K5 H locs eK5 HW => ?_)
    refine lv_iload_n hx hb d_M_stage_34 rfl (lv_at hl 0 rfl) ?_
    refine vd_if_le (tgt := 45) hx hb d_M_stage_35 (by decide) (by omega) (fun c_35 => ?_) (fun c_35 => ?_)
    · refine lv_aload_n hx hb d_M_stage_45 rfl (lv_at hl 1 rfl) ?_
      refine vg_35_clashing CX HW lk_M_26 d_M_stage_46 ?_
      refine lv_iload_n hx hb d_M_stage_49 rfl (lv_at hl 2 rfl) ?_
      refine lv_iconst (v := (nI 0)) hx hb d_M_stage_50 (by decide) ?_
      refine vd_zast CX HW (j := 19) (i := f) (x := 0) rfl (show f < 16 by omega) (show 0 ≤ 1 by omega) (show 0 ≤ 1 by omega) d_M_stage_51 (fun K6 H locs eK6 HW => ?_)
      refine lv_iconst (v := (nI 0)) hx hb d_M_stage_52 (by decide) ?_
      exact RET _ _ _ _ _ _ d_M_stage_53 (by have h90 : vd_in 0 15 (nI f) = true := (by exact c_7); rw [nI_clamp (show f < 2 ^ 31 by omega)]; rw [if_pos h90, if_pos h90]; unfold vd_bl; first | (rw [if_pos c_35]; subst_vars; exact ⟨rfl, rfl⟩) | (rw [if_neg c_35]; subst_vars; exact ⟨rfl, rfl⟩)) HW
    · refine lv_aload_n hx hb d_M_stage_38 rfl (lv_at hl 1 rfl) ?_
      refine vg_35_blob CX HW lk_M_29 d_M_stage_39 ?_
      refine lv_iload_n hx hb d_M_stage_42 rfl (lv_at hl 0 rfl) ?_
      refine lv_iconst (v := (nI 1)) hx hb d_M_stage_43 (by decide) ?_
      refine vd_zast CX HW (j := 20) (i := (K 14 (496 + f))) (x := 1) rfl (show K 14 (496 + f) < 10000 by omega) (show 1 ≤ 1 by omega) (show 1 ≤ 1 by omega) d_M_stage_44 (fun K7 H locs eK7 HW => ?_)
      refine lv_aload_n hx hb d_M_stage_45 rfl (lv_at hl 1 rfl) ?_
      refine vg_35_clashing CX HW lk_M_26 d_M_stage_46 ?_
      refine lv_iload_n hx hb d_M_stage_49 rfl (lv_at hl 2 rfl) ?_
      refine lv_iconst (v := (nI 0)) hx hb d_M_stage_50 (by decide) ?_
      refine vd_zast CX HW (j := 19) (i := f) (x := 0) rfl (show f < 16 by omega) (show 0 ≤ 1 by omega) (show 0 ≤ 1 by omega) d_M_stage_51 (fun K8 H locs eK8 HW => ?_)
      refine lv_iconst (v := (nI 0)) hx hb d_M_stage_52 (by decide) ?_
      exact RET _ _ _ _ _ _ d_M_stage_53 (by have h90 : vd_in 0 15 (nI f) = true := (by exact c_7); rw [nI_clamp (show f < 2 ^ 31 by omega)]; rw [if_pos h90, if_pos h90]; unfold vd_bl; first | (rw [if_pos c_35]; subst_vars; exact ⟨rfl, rfl⟩) | (rw [if_neg c_35]; subst_vars; exact ⟨rfl, rfl⟩)) HW
  · refine lv_iconst (v := (-1 : Int32)) hx hb d_M_stage_10 (by decide) ?_
    exact RET _ _ _ _ _ _ d_M_stage_11 (by have h90 : ¬ (vd_in 0 15 x = true) := (by rw [c_7]; decide); rw [if_neg h90, if_neg h90]; exact ⟨rfl, rfl⟩) HW
set_option maxHeartbeats 1000000 in
set_option maxRecDepth 100000 in
theorem j_make (l : Launch) (D : va_G) (ad : Nat → Nat) (K : KT) (row : Nat) (one : Nat) (two : Nat) (h1 : row ≤ 33) (h2 : one ≤ 30) (h3 : two ≤ 30) (h4 : K 47 0 < 30) : vd_MI l y_M_make c_M_make 5 (some .int) 1 23 D ad [.ref (ad 35), .int (nI row), .int (nI one), .int (nI two)] K (fun (ans : Int32) (K' : KT) => K' = vd_mkM K row one two ∧ ans = (nI (K 47 0 + 1))) := by
  refine vd_entI (by decide) (Nat.le_of_ble_eq_true rfl) (lv := [(0, .ref (ad 35)), (1, .int (nI row)), (2, .int (nI one)), (3, .int (nI two))]) rfl ?_
  intro p e s m args below meth cd ls Q CX hl H locs HW RET
  have hx := CX.1
  have hb := CX.2.1
  refine lv_aload_n hx hb d_M_make_0 rfl (lv_at hl 0 rfl) ?_
  refine lv_dup hx hb d_M_make_1 rfl ?_
  refine vg_35_made CX HW lk_M_58 d_M_make_2 (fun b1 => ?_)
  have b1 : K 47 0 ≤ 30 := b1
  refine lv_iconst (v := (nI 1)) hx hb d_M_make_5 (by decide) ?_
  refine vd_iadd hx hb d_M_make_6 ?_
  refine vt_35_made CX HW (x := ((K 47 0) + 1)) (show (K 47 0) + 1 ≤ 30 by omega) lk_M_58 d_M_make_7 (fun K2 H locs eK2 HW => ?_)
  refine lv_aload_n hx hb d_M_make_10 rfl (lv_at hl 0 rfl) ?_
  refine lv_iload_n hx hb d_M_make_11 rfl (lv_at hl 1 rfl) ?_
  refine lv_aload_n hx hb d_M_make_12 rfl (lv_at hl 0 rfl) ?_
  refine vg_35_made CX HW lk_M_58 d_M_make_13 (fun b3 => ?_)
  have b3 : K2 47 0 ≤ 30 := b3
  refine vd_callVv (As := [.int (nI row), .int (nI (K2 47 0))]) (rest := []) CX HW (j_copy l D ad K2 row (K2 47 0) (by omega) (by omega)) mo_M_copy wi_M_copy ws_M_copy (vr_35 CX HW) ml_M_46 rfl rfl ⟨Nat.le_of_ble_eq_true rfl, Nat.le_of_ble_eq_true rfl⟩ hl.1 (Nat.le_of_ble_eq_true rfl) d_M_make_16 ⟨Nat.zero_le _, Nat.zero_le _⟩ (fun K5 H locs q6 HW => ?_)
  have eK5 := q6
  refine lv_aload_n hx hb d_M_make_19 rfl (lv_at hl 0 rfl) ?_
  refine vg_35_stored CX HW lk_M_13 d_M_make_20 ?_
  refine lv_aload_n hx hb d_M_make_23 rfl (lv_at hl 0 rfl) ?_
  refine vg_35_made CX HW lk_M_58 d_M_make_24 (fun b7 => ?_)
  have b7 : K5 47 0 ≤ 30 := b7
  refine lv_iconst (v := (nI 1)) hx hb d_M_make_27 (by decide) ?_
  refine vd_zast CX HW (j := 15) (i := (K5 47 0)) (x := 1) rfl (show K5 47 0 < 31 by omega) (show 1 ≤ 1 by omega) (show 1 ≤ 1 by omega) d_M_make_28 (fun K8 H locs eK8 HW => ?_)
  refine lv_aload_n hx hb d_M_make_29 rfl (lv_at hl 0 rfl) ?_
  refine vg_35_first CX HW lk_M_17 d_M_make_30 ?_
  refine lv_aload_n hx hb d_M_make_33 rfl (lv_at hl 0 rfl) ?_
  refine vg_35_made CX HW lk_M_58 d_M_make_34 (fun b9 => ?_)
  have b9 : K8 47 0 ≤ 30 := b9
  refine lv_iload_n hx hb d_M_make_37 rfl (lv_at hl 2 rfl) ?_
  refine vd_iast CX HW (j := 16) (i := (K8 47 0)) (x := one) rfl (show K8 47 0 < 31 by omega) (show one ≤ 30 by omega) d_M_make_38 (fun K10 H locs eK10 HW => ?_)
  refine lv_aload_n hx hb d_M_make_39 rfl (lv_at hl 0 rfl) ?_
  refine vg_35_second CX HW lk_M_20 d_M_make_40 ?_
  refine lv_aload_n hx hb d_M_make_43 rfl (lv_at hl 0 rfl) ?_
  refine vg_35_made CX HW lk_M_58 d_M_make_44 (fun b11 => ?_)
  have b11 : K10 47 0 ≤ 30 := b11
  refine lv_iload_n hx hb d_M_make_47 rfl (lv_at hl 3 rfl) ?_
  refine vd_iast CX HW (j := 17) (i := (K10 47 0)) (x := two) rfl (show K10 47 0 < 31 by omega) (show two ≤ 30 by omega) d_M_make_48 (fun K12 H locs eK12 HW => ?_)
  refine lv_iconst (v := (nI 0)) hx hb d_M_make_49 (by decide) ?_
  refine lv_istore (lv' := [(4, .int (nI 0)), (0, .ref (ad 35)), (1, .int (nI row)), (2, .int (nI one)), (3, .int (nI two))]) hx hb d_M_make_50 hl (by decide) rfl (fun ls hl => ?_)
  have loop52 : ∀ (n : Nat) (i : Nat) (Kl : KT), (Kl = vd_bls (vd_st (vd_st (vd_st (vd_cp (vd_st K 47 0 (K 47 0 + 1)) row (K 47 0 + 1)) 15 (K 47 0 + 1) 1) 16 (K 47 0 + 1) one) 17 (K 47 0 + 1) two) (16 * (K 47 0 + 1)) i) → (i ≤ 16) → (Kl 47 0 = K 47 0 + 1) → (16 < i + n) → ∀ (H : Heap) (locs : List Loc) (ls : Array Slot), vd_WS D ad s Kl H locs → lv_has ls 5 [(0, .ref (ad 35)), (1, .int (nI row)), (2, .int (nI one)), (3, .int (nI two)), (4, .int (nI i))] → W p l e (vd_R 1 23) s m args below meth cd H locs 0 0 Q (F0 m 52 ls []) := by
    intro n
    induction n with
    | zero => intro i Kl hk hi h47 hm; exfalso; omega
    | succ n ih52 =>
      intro i Kl hk hi h47 hm H locs ls HW hl
      have hB14 : (vd_st (vd_st (vd_st (vd_cp (vd_st K 47 0 (K 47 0 + 1)) row (K 47 0 + 1)) 15 (K 47 0 + 1) 1) 16 (K 47 0 + 1) one) 17 (K 47 0 + 1) two) 14 = Kl 14 := by rw [hk, vd_bls_o _ _ (by decide)]
      refine lv_iload hx hb d_M_make_52 (lv_at hl 4 rfl) ?_
      refine lv_bipush (v := (nI 16)) hx hb d_M_make_54 (by decide) ?_
      refine vd_icmp_ge (tgt := 104) hx hb d_M_make_56 (by decide) (by omega) (by omega) (fun c_56 => ?_) (fun c_56 => ?_)
      · refine lv_aload_n hx hb d_M_make_104 rfl (lv_at hl 0 rfl) ?_
        refine vg_35_branch CX HW lk_M_23 d_M_make_105 ?_
        refine lv_aload_n hx hb d_M_make_108 rfl (lv_at hl 0 rfl) ?_
        refine vg_35_head CX HW lk_M_38 d_M_make_109 (fun b13 => ?_)
        have b13 : Kl 48 0 ≤ 5 := b13
        refine lv_aload_n hx hb d_M_make_112 rfl (lv_at hl 0 rfl) ?_
        refine vg_35_made CX HW lk_M_58 d_M_make_113 (fun b14 => ?_)
        have b14 : Kl 47 0 ≤ 30 := b14
        refine vd_iast CX HW (j := 18) (i := (Kl 48 0)) (x := (Kl 47 0)) rfl (show Kl 48 0 < 6 by omega) (show Kl 47 0 ≤ 30 by omega) d_M_make_116 (fun K15 H locs eK15 HW => ?_)
        refine lv_aload_n hx hb d_M_make_117 rfl (lv_at hl 0 rfl) ?_
        refine vg_35_made CX HW lk_M_58 d_M_make_118 (fun b16 => ?_)
        have b16 : K15 47 0 ≤ 30 := b16
        exact RET _ _ _ _ _ _ d_M_make_121 (by rw [show i = 16 by omega] at hk; refine ⟨?_, ?_⟩; (· rw [eK15, h47, hk]; rfl); (· rw [eK15]; show nI (Kl 47 0) = nI (K 47 0 + 1); rw [h47])) HW
      · refine lv_aload_n hx hb d_M_make_59 rfl (lv_at hl 0 rfl) ?_
        refine vg_35_content CX HW lk_M_7 d_M_make_60 ?_
        refine lv_bipush (v := (nI 16)) hx hb d_M_make_63 (by decide) ?_
        refine lv_aload_n hx hb d_M_make_65 rfl (lv_at hl 0 rfl) ?_
        refine vg_35_made CX HW lk_M_58 d_M_make_66 (fun b17 => ?_)
        have b17 : Kl 47 0 ≤ 30 := b17
        refine vd_imul hx hb d_M_make_69 ?_
        refine lv_iload hx hb d_M_make_70 (lv_at hl 4 rfl) ?_
        refine vd_iadd hx hb d_M_make_72 ?_
        refine vd_iald CX HW (j := 14) (i := ((16 * (Kl 47 0)) + i)) rfl (show (16 * (Kl 47 0)) + i < 544 by omega) d_M_make_73 (fun b18 => ?_)
        have b18 : Kl 14 ((16 * (Kl 47 0)) + i) ≤ 9999 := b18
        refine vd_if_le (tgt := 98) hx hb d_M_make_74 (by decide) (by omega) (fun c_74 => ?_) (fun c_74 => ?_)
        · refine lv_iinc (v := (nI (i + 1))) (lv' := [(4, .int (nI (i + 1))), (0, .ref (ad 35)), (1, .int (nI row)), (2, .int (nI one)), (3, .int (nI two))]) hx hb d_M_make_98 hl (k := 4) rfl (vd_inc _ 1) (by decide) rfl (fun ls hl => ?_)
          refine lv_goto (tgt := 52) hx hb d_M_make_101 (by decide) ?_
          exact ih52 (i + 1) Kl (by rw [vd_bls_s, ← hk, hB14, ← h47]; unfold vd_bl; rw [if_pos c_74]) (by omega) (by exact h47) (by omega) H locs ls HW (lv_sub hl [1, 2, 3, 4, 0] rfl)
        · refine lv_aload_n hx hb d_M_make_77 rfl (lv_at hl 0 rfl) ?_
          refine vg_35_blob CX HW lk_M_29 d_M_make_78 ?_
          refine lv_aload_n hx hb d_M_make_81 rfl (lv_at hl 0 rfl) ?_
          refine vg_35_content CX HW lk_M_7 d_M_make_82 ?_
          refine lv_bipush (v := (nI 16)) hx hb d_M_make_85 (by decide) ?_
          refine lv_aload_n hx hb d_M_make_87 rfl (lv_at hl 0 rfl) ?_
          refine vg_35_made CX HW lk_M_58 d_M_make_88 (fun b19 => ?_)
          have b19 : Kl 47 0 ≤ 30 := b19
          refine vd_imul hx hb d_M_make_91 ?_
          refine lv_iload hx hb d_M_make_92 (lv_at hl 4 rfl) ?_
          refine vd_iadd hx hb d_M_make_94 ?_
          refine vd_iald CX HW (j := 14) (i := ((16 * (Kl 47 0)) + i)) rfl (show (16 * (Kl 47 0)) + i < 544 by omega) d_M_make_95 (fun b20 => ?_)
          have b20 : Kl 14 ((16 * (Kl 47 0)) + i) ≤ 9999 := b20
          refine lv_iconst (v := (nI 1)) hx hb d_M_make_96 (by decide) ?_
          refine vd_zast CX HW (j := 20) (i := (Kl 14 ((16 * (Kl 47 0)) + i))) (x := 1) rfl (show Kl 14 ((16 * (Kl 47 0)) + i) < 10000 by omega) (show 1 ≤ 1 by omega) (show 1 ≤ 1 by omega) d_M_make_97 (fun K21 H locs eK21 HW => ?_)
          refine lv_iinc (v := (nI (i + 1))) (lv' := [(4, .int (nI (i + 1))), (0, .ref (ad 35)), (1, .int (nI row)), (2, .int (nI one)), (3, .int (nI two))]) hx hb d_M_make_98 hl (k := 4) rfl (vd_inc _ 1) (by decide) rfl (fun ls hl => ?_)
          refine lv_goto (tgt := 52) hx hb d_M_make_101 (by decide) ?_
          exact ih52 (i + 1) K21 (by rw [vd_bls_s, ← hk, hB14, ← h47]; unfold vd_bl; rw [if_neg c_74]; exact eK21) (by omega) (by rw [eK21]; exact h47) (by omega) H locs ls HW (lv_sub hl [1, 2, 3, 4, 0] rfl)
  exact loop52 17 0 K12 (by subst_vars; rfl) (by omega) (by subst_vars; rfl) (by omega) H locs ls HW (lv_sub hl [1, 2, 3, 4, 0] rfl)
