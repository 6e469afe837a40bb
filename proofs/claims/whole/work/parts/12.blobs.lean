set_option maxHeartbeats 1000000 in
set_option maxRecDepth 100000 in
theorem k_bkeep (l : Launch) (D : va_G) (ad : Nat → Nat) (K : KT) (x : Nat) (hx9 : x ≤ 9999) : vd_MV l y_B_keep c_B_keep 2 0 0 D ad [.ref (ad 32), .int (nI x)] K (fun (K' : KT) => K' = vd_bk K x) := by
  refine vd_entV (by decide) (Nat.le_of_ble_eq_true rfl) (lv := [(0, .ref (ad 32)), (1, .int (nI x))]) rfl ?_
  intro p e s m args below meth cd ls Q CX hl H locs HW RET
  have hx := CX.1
  have hb := CX.2.1
  refine lv_iload_n hx hb d_B_keep_0 rfl (lv_at hl 1 rfl) ?_
  refine vd_if_eq (tgt := 22) hx hb d_B_keep_1 (by decide) (by omega) (fun c_1 => ?_) (fun c_1 => ?_)
  · exact RET _ _ _ _ _ d_B_keep_22 (by unfold vd_bk; first | rw [if_pos c_1] | (rw [if_neg c_1]; subst_vars; rfl)) HW
  · refine lv_aload_n hx hb d_B_keep_4 rfl (lv_at hl 0 rfl) ?_
    refine vg_32_bits CX HW lk_B_11 d_B_keep_5 ?_
    refine lv_iload_n hx hb d_B_keep_8 rfl (lv_at hl 1 rfl) ?_
    refine lv_bipush (v := (nI 64)) hx hb d_B_keep_9 (by decide) ?_
    refine vd_idiv hx hb (by omega) (by omega) (by omega) d_B_keep_11 ?_
    refine lv_dup2_11 hx hb d_B_keep_12 rfl rfl ?_
    refine vd_lald CX HW (j := 9) (i := (x / 64)) rfl (show x / 64 < 157 by omega) d_B_keep_13 (fun b1 => ?_)
    have b1 : K 9 (x / 64) ≤ 18446744073709551615 := b1
    refine lv_lconst (v := lN 1) hx hb d_B_keep_14 (by decide) ?_
    refine lv_iload_n hx hb d_B_keep_15 rfl (lv_at hl 1 rfl) ?_
    refine lv_bipush (v := (nI 64)) hx hb d_B_keep_16 (by decide) ?_
    refine vd_irem hx hb (by omega) (by omega) (by omega) d_B_keep_18 ?_
    refine lv_lshl (v := lN (2 ^ (x % 64))) hx hb d_B_keep_19 (vd_lshl _ (by omega)) ?_
    refine vd_lor hx hb (by omega) (vd_pow64 (by omega)) d_B_keep_20 ?_
    refine vd_last CX HW (j := 9) (i := (x / 64)) (x := ((K 9 (x / 64)) ||| (2 ^ (x % 64)))) rfl (show x / 64 < 157 by omega) (show (K 9 (x / 64)) ||| (2 ^ (x % 64)) ≤ 18446744073709551615 by exact vd_or64 b1 (vd_pow64 (by omega))) d_B_keep_21 (fun K2 H locs eK2 HW => ?_)
    exact RET _ _ _ _ _ d_B_keep_22 (by unfold vd_bk; first | rw [if_pos c_1] | (rw [if_neg c_1]; subst_vars; rfl)) HW
set_option maxHeartbeats 1000000 in
set_option maxRecDepth 100000 in
theorem k_bclear (l : Launch) (D : va_G) (ad : Nat → Nat) (K : KT)   : vd_MV l y_B_clear c_B_clear 2 0 0 D ad [.ref (ad 32)] K (fun (K' : KT) => K' = vd_fl K 9 0 157 (fun _ => 0)) := by
  refine vd_entV (by decide) (Nat.le_of_ble_eq_true rfl) (lv := [(0, .ref (ad 32))]) rfl ?_
  intro p e s m args below meth cd ls Q CX hl H locs HW RET
  have hx := CX.1
  have hb := CX.2.1
  refine lv_iconst (v := (nI 0)) hx hb d_B_clear_0 (by decide) ?_
  refine lv_istore_n (lv' := [(1, .int (nI 0)), (0, .ref (ad 32))]) hx hb d_B_clear_1 rfl hl (by decide) rfl (fun ls hl => ?_)
  have loop2 : ∀ (n : Nat) (i : Nat) (Kl : KT), (Kl = vd_fl K 9 0 i (fun _ => 0)) → (i ≤ 157) → (157 < i + n) → ∀ (H : Heap) (locs : List Loc) (ls : Array Slot), vd_WS D ad s Kl H locs → lv_has ls 2 [(0, .ref (ad 32)), (1, .int (nI i))] → W p l e (vd_R 0 0) s m args below meth cd H locs 0 0 Q (F0 m 2 ls []) := by
    intro n
    induction n with
    | zero => intro i Kl hk hi hm; exfalso; omega
    | succ n ih2 =>
      intro i Kl hk hi hm H locs ls HW hl
      refine lv_iload_n hx hb d_B_clear_2 rfl (lv_at hl 1 rfl) ?_
      refine lv_aload_n hx hb d_B_clear_3 rfl (lv_at hl 0 rfl) ?_
      refine vg_32_bits CX HW lk_B_11 d_B_clear_4 ?_
      refine vd_alen2 CX HW (j := 9) rfl d_B_clear_7 ?_
      show W p l e _ s m args below meth cd H locs 0 0 Q (F0 m _ ls [.int (nI 157), .int (nI i)])
      refine vd_icmp_ge (tgt := 24) hx hb d_B_clear_8 (by decide) (by omega) (by omega) (fun c_8 => ?_) (fun c_8 => ?_)
      · exact RET _ _ _ _ _ d_B_clear_24 (by rw [hk, show i = 157 by omega]) HW
      · refine lv_aload_n hx hb d_B_clear_11 rfl (lv_at hl 0 rfl) ?_
        refine vg_32_bits CX HW lk_B_11 d_B_clear_12 ?_
        refine lv_iload_n hx hb d_B_clear_15 rfl (lv_at hl 1 rfl) ?_
        refine lv_lconst (v := lN 0) hx hb d_B_clear_16 (by decide) ?_
        refine vd_last CX HW (j := 9) (i := i) (x := 0) rfl (show i < 157 by omega) (show 0 ≤ 18446744073709551615 by omega) d_B_clear_17 (fun K1 H locs eK1 HW => ?_)
        refine lv_iinc (v := (nI (i + 1))) (lv' := [(1, .int (nI (i + 1))), (0, .ref (ad 32))]) hx hb d_B_clear_18 hl (k := 1) rfl (vd_inc _ 1) (by decide) rfl (fun ls hl => ?_)
        refine lv_goto (tgt := 2) hx hb d_B_clear_21 (by decide) ?_
        exact ih2 (i + 1) K1 (by exact vd_fl_step hk eK1 (by omega) rfl) (by omega) (by omega) H locs ls HW (lv_sub hl [1, 0] rfl)
  exact loop2 158 0 K (by rw [vd_fl_0]) (by omega) (by omega) H locs ls HW (lv_sub hl [1, 0] rfl)
