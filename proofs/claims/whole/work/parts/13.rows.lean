set_option maxHeartbeats 1000000 in
set_option maxRecDepth 100000 in
theorem k_get_33 (l : Launch) (D : va_G) (ad : Nat → Nat) (K : KT) (r : Nat) (q : Nat) (hr : r ≤ 120) (hq : q < 4) : vd_MI l y_W_get c_W_get 3 (some .int) 0 0 D ad [.ref (ad 33), .int (nI r), .int (nI q)] K (fun (ans : Int32) (K' : KT) => K = K' ∧ ans = (nI (K 10 (r * 4 + q))) ∧ K 10 (r * 4 + q) ≤ 9999) := by
  refine vd_entI (by decide) (Nat.le_of_ble_eq_true rfl) (lv := [(0, .ref (ad 33)), (1, .int (nI r)), (2, .int (nI q))]) rfl ?_
  intro p e s m args below meth cd ls Q CX hl H locs HW RET
  have hx := CX.1
  have hb := CX.2.1
  refine lv_aload_n hx hb d_W_get_0 rfl (lv_at hl 0 rfl) ?_
  refine vg_33_numbers CX HW lk_W_9 d_W_get_1 ?_
  refine lv_iload_n hx hb d_W_get_4 rfl (lv_at hl 1 rfl) ?_
  refine lv_iconst (v := (nI 4)) hx hb d_W_get_5 (by decide) ?_
  refine vd_imul hx hb d_W_get_6 ?_
  refine lv_iload_n hx hb d_W_get_7 rfl (lv_at hl 2 rfl) ?_
  refine vd_iadd hx hb d_W_get_8 ?_
  refine vd_iald CX HW (j := 10) (i := ((r * 4) + q)) rfl (show (r * 4) + q < 484 by omega) d_W_get_9 (fun b1 => ?_)
  have b1 : K 10 ((r * 4) + q) ≤ 9999 := b1
  exact RET _ _ _ _ _ _ d_W_get_10 (by (refine ⟨rfl, rfl, ?_⟩; (· omega))) HW
set_option maxHeartbeats 1000000 in
set_option maxRecDepth 100000 in
theorem k_again_33 (l : Launch) (D : va_G) (ad : Nat → Nat) (K : KT) (r : Nat) (hr : r ≤ 120) : vd_MV l y_W_keepAgain c_W_keepAgain 2 0 0 D ad [.ref (ad 33), .int (nI r)] K (fun (K' : KT) => K' = vd_st K 11 r 1) := by
  refine vd_entV (by decide) (Nat.le_of_ble_eq_true rfl) (lv := [(0, .ref (ad 33)), (1, .int (nI r))]) rfl ?_
  intro p e s m args below meth cd ls Q CX hl H locs HW RET
  have hx := CX.1
  have hb := CX.2.1
  refine lv_aload_n hx hb d_W_keepAgain_0 rfl (lv_at hl 0 rfl) ?_
  refine vg_33_stored CX HW lk_W_15 d_W_keepAgain_1 ?_
  refine lv_iload_n hx hb d_W_keepAgain_4 rfl (lv_at hl 1 rfl) ?_
  refine lv_iconst (v := (nI 1)) hx hb d_W_keepAgain_5 (by decide) ?_
  refine vd_zast CX HW (j := 11) (i := r) (x := 1) rfl (show r < 121 by omega) (show 1 ≤ 1 by omega) (show 1 ≤ 1 by omega) d_W_keepAgain_6 (fun K1 H locs eK1 HW => ?_)
  exact RET _ _ _ _ _ d_W_keepAgain_7 (by subst_vars; rfl) HW
set_option maxHeartbeats 1000000 in
set_option maxRecDepth 100000 in
theorem k_rclear_33 (l : Launch) (D : va_G) (ad : Nat → Nat) (K : KT)   : vd_MV l y_W_clear c_W_clear 2 0 0 D ad [.ref (ad 33)] K (fun (K' : KT) => K' = vd_fl K 11 0 121 (fun _ => 0)) := by
  refine vd_entV (by decide) (Nat.le_of_ble_eq_true rfl) (lv := [(0, .ref (ad 33))]) rfl ?_
  intro p e s m args below meth cd ls Q CX hl H locs HW RET
  have hx := CX.1
  have hb := CX.2.1
  refine lv_iconst (v := (nI 0)) hx hb d_W_clear_0 (by decide) ?_
  refine lv_istore_n (lv' := [(1, .int (nI 0)), (0, .ref (ad 33))]) hx hb d_W_clear_1 rfl hl (by decide) rfl (fun ls hl => ?_)
  have loop2 : ∀ (n : Nat) (i : Nat) (Kl : KT), (Kl = vd_fl K 11 0 i (fun _ => 0)) → (i ≤ 121) → (121 < i + n) → ∀ (H : Heap) (locs : List Loc) (ls : Array Slot), vd_WS D ad s Kl H locs → lv_has ls 2 [(0, .ref (ad 33)), (1, .int (nI i))] → W p l e (vd_R 0 0) s m args below meth cd H locs 0 0 Q (F0 m 2 ls []) := by
    intro n
    induction n with
    | zero => intro i Kl hk hi hm; exfalso; omega
    | succ n ih2 =>
      intro i Kl hk hi hm H locs ls HW hl
      refine lv_iload_n hx hb d_W_clear_2 rfl (lv_at hl 1 rfl) ?_
      refine lv_aload_n hx hb d_W_clear_3 rfl (lv_at hl 0 rfl) ?_
      refine vg_33_stored CX HW lk_W_15 d_W_clear_4 ?_
      refine vd_alen1 CX HW (j := 11) rfl d_W_clear_7 ?_
      show W p l e _ s m args below meth cd H locs 0 0 Q (F0 m _ ls [.int (nI 121), .int (nI i)])
      refine vd_icmp_ge (tgt := 24) hx hb d_W_clear_8 (by decide) (by omega) (by omega) (fun c_8 => ?_) (fun c_8 => ?_)
      · exact RET _ _ _ _ _ d_W_clear_24 (by rw [hk, show i = 121 by omega]) HW
      · refine lv_aload_n hx hb d_W_clear_11 rfl (lv_at hl 0 rfl) ?_
        refine vg_33_stored CX HW lk_W_15 d_W_clear_12 ?_
        refine lv_iload_n hx hb d_W_clear_15 rfl (lv_at hl 1 rfl) ?_
        refine lv_iconst (v := (nI 0)) hx hb d_W_clear_16 (by decide) ?_
        refine vd_zast CX HW (j := 11) (i := i) (x := 0) rfl (show i < 121 by omega) (show 0 ≤ 1 by omega) (show 0 ≤ 1 by omega) d_W_clear_17 (fun K1 H locs eK1 HW => ?_)
        refine lv_iinc (v := (nI (i + 1))) (lv' := [(1, .int (nI (i + 1))), (0, .ref (ad 33))]) hx hb d_W_clear_18 hl (k := 1) rfl (vd_inc _ 1) (by decide) rfl (fun ls hl => ?_)
        refine lv_goto (tgt := 2) hx hb d_W_clear_21 (by decide) ?_
        exact ih2 (i + 1) K1 (by exact vd_fl_step hk eK1 (by omega) rfl) (by omega) (by omega) H locs ls HW (lv_sub hl [1, 0] rfl)
  exact loop2 122 0 K (by rw [vd_fl_0]) (by omega) (by omega) H locs ls HW (lv_sub hl [1, 0] rfl)
set_option maxHeartbeats 1000000 in
set_option maxRecDepth 100000 in
theorem k_rsize_33 (l : Launch) (D : va_G) (ad : Nat → Nat) (K : KT)   : vd_MI l y_W_size c_W_size 3 (some .int) 0 0 D ad [.ref (ad 33)] K (fun (ans : Int32) (K' : KT) => K = K' ∧ ans = (nI (vd_rsz K 11 45)) ∧ vd_rsz K 11 45 ≤ 120) := by
  refine vd_entI (by decide) (Nat.le_of_ble_eq_true rfl) (lv := [(0, .ref (ad 33))]) rfl ?_
  intro p e s m args below meth cd ls Q CX hl H locs HW RET
  have hx := CX.1
  have hb := CX.2.1
  have hcap : K 45 0 ≤ 120 := HW.2.2.2 45 0 (by decide)
  refine lv_iconst (v := (nI 0)) hx hb d_W_size_0 (by decide) ?_
  refine lv_istore_n (lv' := [(1, .int (nI 0)), (0, .ref (ad 33))]) hx hb d_W_size_1 rfl hl (by decide) rfl (fun ls hl => ?_)
  refine lv_iconst (v := (nI 1)) hx hb d_W_size_2 (by decide) ?_
  refine lv_istore_n (lv' := [(2, .int (nI 1)), (1, .int (nI 0)), (0, .ref (ad 33))]) hx hb d_W_size_3 rfl hl (by decide) rfl (fun ls hl => ?_)
  have loop4 : ∀ (n : Nat) (a : Nat) (i : Nat), (a = vd_cn (fun r => K 11 (r + 1) != 0) i) → (i ≤ K 45 0) → (121 < i + n) → ∀ (H : Heap) (locs : List Loc) (ls : Array Slot), vd_WS D ad s K H locs → lv_has ls 3 [(0, .ref (ad 33)), (1, .int (nI a)), (2, .int (nI (i + 1)))] → W p l e (vd_R 0 0) s m args below meth cd H locs 0 0 Q (F0 m 4 ls []) := by
    intro n
    induction n with
    | zero => intro a i ha hi hm; exfalso; omega
    | succ n ih4 =>
      intro a i ha hi hm H locs ls HW hl
      refine lv_iload_n hx hb d_W_size_4 rfl (lv_at hl 2 rfl) ?_
      refine lv_aload_n hx hb d_W_size_5 rfl (lv_at hl 0 rfl) ?_
      refine vg_33_last CX HW lk_W_19 d_W_size_6 (fun b1 => ?_)
      have b1 : K 45 0 ≤ 120 := b1
      refine vd_icmp_gt (tgt := 30) hx hb d_W_size_9 (by decide) (by omega) (by omega) (fun c_9 => ?_) (fun c_9 => ?_)
      · refine lv_iload_n hx hb d_W_size_30 rfl (lv_at hl 1 rfl) ?_
        exact RET _ _ _ _ _ _ d_W_size_31 (by have e1 : i = K 45 0 := (by omega); subst e1; (refine ⟨rfl, ?_, ?_⟩; (· rw [ha]; rfl); (· unfold vd_rsz; exact Nat.le_trans (vd_cn_le _ _) (by omega)))) HW
      · refine lv_aload_n hx hb d_W_size_12 rfl (lv_at hl 0 rfl) ?_
        refine vg_33_stored CX HW lk_W_15 d_W_size_13 ?_
        refine lv_iload_n hx hb d_W_size_16 rfl (lv_at hl 2 rfl) ?_
        refine vd_zald CX HW (j := 11) (i := (i + 1)) rfl (show i + 1 < 121 by omega) d_W_size_17 (fun b2 => ?_)
        have b2 : K 11 (i + 1) ≤ 1 := b2
        refine vd_if_eq (tgt := 24) hx hb d_W_size_18 (by decide) (by omega) (fun c_18 => ?_) (fun c_18 => ?_)
        · refine lv_iinc (v := (nI ((i + 1) + 1))) (lv' := [(2, .int (nI ((i + 1) + 1))), (0, .ref (ad 33)), (1, .int (nI a))]) hx hb d_W_size_24 hl (k := 2) rfl (vd_inc _ 1) (by decide) rfl (fun ls hl => ?_)
          refine lv_goto (tgt := 4) hx hb d_W_size_27 (by decide) ?_
          exact ih4 a (i + 1) (by first | exact vd_cn_t ha (by simpa using c_18) | exact vd_cn_f ha (by simpa using c_18)) (by omega) (by omega) H locs ls HW (lv_sub hl [1, 2, 0] rfl)
        · refine lv_iinc (v := (nI (a + 1))) (lv' := [(1, .int (nI (a + 1))), (0, .ref (ad 33)), (2, .int (nI (i + 1)))]) hx hb d_W_size_21 hl (k := 1) rfl (vd_inc _ 1) (by decide) rfl (fun ls hl => ?_)
          refine lv_iinc (v := (nI ((i + 1) + 1))) (lv' := [(2, .int (nI ((i + 1) + 1))), (1, .int (nI (a + 1))), (0, .ref (ad 33))]) hx hb d_W_size_24 hl (k := 2) rfl (vd_inc _ 1) (by decide) rfl (fun ls hl => ?_)
          refine lv_goto (tgt := 4) hx hb d_W_size_27 (by decide) ?_
          exact ih4 (a + 1) (i + 1) (by first | exact vd_cn_t ha (by simpa using c_18) | exact vd_cn_f ha (by simpa using c_18)) (by omega) (by omega) H locs ls HW (lv_sub hl [2, 1, 0] rfl)
  exact loop4 122 0 0 (by rfl) (by omega) (by omega) H locs ls HW (lv_sub hl [2, 1, 0] rfl)
set_option maxHeartbeats 1000000 in
set_option maxRecDepth 100000 in
theorem k_alike_33_1 (l : Launch) (D : va_G) (ad : Nat → Nat) (K : KT) (r : Nat) (f : Nat) (hr : r ≤ 120) (hf : f + 4 ≤ 16) : vd_MI l y_W_isAlike c_W_isAlike 5 (some .boolean) 0 0 D ad [.ref (ad 33), .int (nI r), .ref (ad 1), .int (nI f)] K (fun (ans : Int32) (K' : KT) => K = K' ∧ ans = (vd_b (vd_alk K 10 1 r f))) := by
  refine vd_entZ (by decide) (Nat.le_of_ble_eq_true rfl) (lv := [(0, .ref (ad 33)), (1, .int (nI r)), (2, .ref (ad 1)), (3, .int (nI f))]) rfl ?_
  intro p e s m args below meth cd ls Q CX hl H locs HW RET
  have hx := CX.1
  have hb := CX.2.1
  refine lv_iconst (v := (nI 0)) hx hb d_W_isAlike_0 (by decide) ?_
  refine lv_istore (lv' := [(4, .int (nI 0)), (0, .ref (ad 33)), (1, .int (nI r)), (2, .ref (ad 1)), (3, .int (nI f))]) hx hb d_W_isAlike_1 hl (by decide) rfl (fun ls hl => ?_)
  have loop3 : ∀ (n : Nat) (i : Nat), (∀ q, q < i → K 10 (r * 4 + q) = K 1 (f + q)) → (i ≤ 4) → (4 < i + n) → ∀ (H : Heap) (locs : List Loc) (ls : Array Slot), vd_WS D ad s K H locs → lv_has ls 5 [(0, .ref (ad 33)), (1, .int (nI r)), (2, .ref (ad 1)), (3, .int (nI f)), (4, .int (nI i))] → W p l e (vd_R 0 0) s m args below meth cd H locs 0 0 Q (F0 m 3 ls []) := by
    intro n
    induction n with
    | zero => intro i hi hi4 hm; exfalso; omega
    | succ n ih3 =>
      intro i hi hi4 hm H locs ls HW hl
      refine lv_iload hx hb d_W_isAlike_3 (lv_at hl 4 rfl) ?_
      refine lv_iconst (v := (nI 4)) hx hb d_W_isAlike_5 (by decide) ?_
      refine vd_icmp_ge (tgt := 37) hx hb d_W_isAlike_6 (by decide) (by omega) (by omega) (fun c_6 => ?_) (fun c_6 => ?_)
      · refine lv_iconst (v := (nI 1)) hx hb d_W_isAlike_37 (by decide) ?_
        exact RET true _ _ _ _ _ d_W_isAlike_38 (by (refine ⟨rfl, ?_⟩; (· rw [show vd_alk K 10 1 r f = true from vd_eqn_t (fun q hq => hi q (by omega))]))) HW
      · refine lv_aload_n hx hb d_W_isAlike_9 rfl (lv_at hl 0 rfl) ?_
        refine vg_33_numbers CX HW lk_W_9 d_W_isAlike_10 ?_
        refine lv_iload_n hx hb d_W_isAlike_13 rfl (lv_at hl 1 rfl) ?_
        refine lv_iconst (v := (nI 4)) hx hb d_W_isAlike_14 (by decide) ?_
        refine vd_imul hx hb d_W_isAlike_15 ?_
        refine lv_iload hx hb d_W_isAlike_16 (lv_at hl 4 rfl) ?_
        refine vd_iadd hx hb d_W_isAlike_18 ?_
        refine vd_iald CX HW (j := 10) (i := ((r * 4) + i)) rfl (show (r * 4) + i < 484 by omega) d_W_isAlike_19 (fun b1 => ?_)
        have b1 : K 10 ((r * 4) + i) ≤ 9999 := b1
        refine lv_aload_n hx hb d_W_isAlike_20 rfl (lv_at hl 2 rfl) ?_
        refine lv_iload_n hx hb d_W_isAlike_21 rfl (lv_at hl 3 rfl) ?_
        refine lv_iload hx hb d_W_isAlike_22 (lv_at hl 4 rfl) ?_
        refine vd_iadd hx hb d_W_isAlike_24 ?_
        refine vd_iald CX HW (j := 1) (i := (f + i)) rfl (show f + i < 16 by omega) d_W_isAlike_25 (fun b2 => ?_)
        have b2 : K 1 (f + i) ≤ 9999 := b2
        refine vd_icmp_eq (tgt := 31) hx hb d_W_isAlike_26 (by decide) (by omega) (by omega) (fun c_26 => ?_) (fun c_26 => ?_)
        · refine lv_iinc (v := (nI (i + 1))) (lv' := [(4, .int (nI (i + 1))), (0, .ref (ad 33)), (1, .int (nI r)), (2, .ref (ad 1)), (3, .int (nI f))]) hx hb d_W_isAlike_31 hl (k := 4) rfl (vd_inc _ 1) (by decide) rfl (fun ls hl => ?_)
          refine lv_goto (tgt := 3) hx hb d_W_isAlike_34 (by decide) ?_
          exact ih3 (i + 1) (by intro q hq; by_cases e1 : q = i; (· subst e1; exact c_26); (· exact hi q (by omega))) (by omega) (by omega) H locs ls HW (lv_sub hl [1, 2, 3, 4, 0] rfl)
        · refine lv_iconst (v := (nI 0)) hx hb d_W_isAlike_29 (by decide) ?_
          exact RET false _ _ _ _ _ d_W_isAlike_30 (by (refine ⟨rfl, ?_⟩; (· rw [show vd_alk K 10 1 r f = false from vd_eqn_f (fun h => c_26 (h i (by omega)))]))) HW
  exact loop3 5 0 (by intro q hq; omega) (by omega) (by omega) H locs ls HW (lv_sub hl [1, 2, 3, 4, 0] rfl)
set_option maxHeartbeats 1000000 in
set_option maxRecDepth 100000 in
theorem k_keep_33_1 (l : Launch) (D : va_G) (ad : Nat → Nat) (K : KT) (f : Nat) (hf : f + 4 ≤ 16) (hroom : K 45 0 < 120) : vd_MI l y_W_keep c_W_keep 4 (some .int) 1 30 D ad [.ref (ad 33), .ref (ad 1), .int (nI f)] K (fun (ans : Int32) (K' : KT) => K' = vd_keep K 10 11 45 1 f ∧ ans = (nI (vd_row K 10 45 1 f)) ∧ 1 ≤ vd_row K 10 45 1 f ∧ vd_row K 10 45 1 f ≤ 120) := by
  refine vd_entI (by decide) (Nat.le_of_ble_eq_true rfl) (lv := [(0, .ref (ad 33)), (1, .ref (ad 1)), (2, .int (nI f))]) rfl ?_
  intro p e s m args below meth cd ls Q CX hl H locs HW RET
  have hx := CX.1
  have hb := CX.2.1
  refine lv_iconst (v := (nI 1)) hx hb d_W_keep_0 (by decide) ?_
  refine lv_istore_n (lv' := [(3, .int (nI 1)), (0, .ref (ad 33)), (1, .ref (ad 1)), (2, .int (nI f))]) hx hb d_W_keep_1 rfl hl (by decide) rfl (fun ls hl => ?_)
  have loop2 : ∀ (n : Nat) (i : Nat), (1 ≤ i) → (i ≤ K 45 0 + 1) → (vd_fs (fun r => vd_alk K 10 1 r f) i (K 45 0 + 1 - i) = vd_row K 10 45 1 f) → (121 < i + n) → ∀ (H : Heap) (locs : List Loc) (ls : Array Slot), vd_WS D ad s K H locs → lv_has ls 4 [(0, .ref (ad 33)), (1, .ref (ad 1)), (2, .int (nI f)), (3, .int (nI i))] → W p l e (vd_R 1 30) s m args below meth cd H locs 0 0 Q (F0 m 2 ls []) := by
    intro n
    induction n with
    | zero => intro i h1 h2 hf2 hm; exfalso; omega
    | succ n ih2 =>
      intro i h1 h2 hf2 hm H locs ls HW hl
      refine lv_iload_n hx hb d_W_keep_2 rfl (lv_at hl 3 rfl) ?_
      refine lv_aload_n hx hb d_W_keep_3 rfl (lv_at hl 0 rfl) ?_
      refine vg_33_last CX HW lk_W_19 d_W_keep_4 (fun b1 => ?_)
      have b1 : K 45 0 ≤ 120 := b1
      refine vd_icmp_gt (tgt := 26) hx hb d_W_keep_7 (by decide) (by omega) (by omega) (fun c_7 => ?_) (fun c_7 => ?_)
      · have e1 : vd_row K 10 45 1 f = i := by
          first
            | (rw [show K 45 0 + 1 - i = 0 by omega] at hf2; exact hf2.symm)
            | (rw [show K 45 0 + 1 - i = (K 45 0 - i) + 1 by omega] at hf2; rw [vd_fs_s, if_pos c_17] at hf2; exact hf2.symm)
        refine lv_iload_n hx hb d_W_keep_26 rfl (lv_at hl 3 rfl) ?_
        refine lv_aload_n hx hb d_W_keep_27 rfl (lv_at hl 0 rfl) ?_
        refine vg_33_last CX HW lk_W_19 d_W_keep_28 (fun b2 => ?_)
        have b2 : K 45 0 ≤ 120 := b2
        refine vd_icmp_le (tgt := 52) hx hb d_W_keep_31 (by decide) (by omega) (by omega) (fun c_31 => ?_) (fun c_31 => ?_)
        · refine lv_aload_n hx hb d_W_keep_52 rfl (lv_at hl 0 rfl) ?_
          refine vg_33_stored CX HW lk_W_15 d_W_keep_53 ?_
          refine lv_iload_n hx hb d_W_keep_56 rfl (lv_at hl 3 rfl) ?_
          refine lv_iconst (v := (nI 1)) hx hb d_W_keep_57 (by decide) ?_
          refine vd_zast CX HW (j := 11) (i := i) (x := 1) rfl (show i < 121 by omega) (show 1 ≤ 1 by omega) (show 1 ≤ 1 by omega) d_W_keep_58 (fun K3 H locs eK3 HW => ?_)
          refine lv_iload_n hx hb d_W_keep_59 rfl (lv_at hl 3 rfl) ?_
          exact RET _ _ _ _ _ _ d_W_keep_60 (by first | (exfalso; omega) | (refine ⟨?_, by rw [e1], by omega⟩; unfold vd_keep; rw [e1]; first | (rw [if_pos (by omega)]; subst_vars; rfl) | (rw [if_neg (by omega)]; subst_vars; rfl))) HW
        · refine lv_aload_n hx hb d_W_keep_34 rfl (lv_at hl 1 rfl) ?_
          refine lv_iload_n hx hb d_W_keep_35 rfl (lv_at hl 2 rfl) ?_
          refine lv_aload_n hx hb d_W_keep_36 rfl (lv_at hl 0 rfl) ?_
          refine vg_33_numbers CX HW lk_W_9 d_W_keep_37 ?_
          refine lv_iload_n hx hb d_W_keep_40 rfl (lv_at hl 3 rfl) ?_
          refine lv_iconst (v := (nI 4)) hx hb d_W_keep_41 (by decide) ?_
          refine vd_imul hx hb d_W_keep_42 ?_
          refine lv_iconst (v := (nI 4)) hx hb d_W_keep_43 (by decide) ?_
          refine vd_copy CX HW (j0 := 1) (j1 := 10) (sp := f) (dp := (i * 4)) (n := 4) rfl rfl (show f + 4 ≤ 16 by omega) (show (i * 4) + 4 ≤ 484 by omega) (fun b hb0 => HW.2.2.2 1 _ (show _ < 16 by omega)) ml_W_27 hl.1 (Nat.le_of_ble_eq_true rfl) (Nat.le_of_ble_eq_true rfl) d_W_keep_44 (fun K4 H locs eK4 HW => ?_)
          refine lv_aload_n hx hb d_W_keep_47 rfl (lv_at hl 0 rfl) ?_
          refine lv_iload_n hx hb d_W_keep_48 rfl (lv_at hl 3 rfl) ?_
          refine vt_33_last CX HW (x := i) (show i ≤ 120 by omega) lk_W_19 d_W_keep_49 (fun K5 H locs eK5 HW => ?_)
          refine lv_aload_n hx hb d_W_keep_52 rfl (lv_at hl 0 rfl) ?_
          refine vg_33_stored CX HW lk_W_15 d_W_keep_53 ?_
          refine lv_iload_n hx hb d_W_keep_56 rfl (lv_at hl 3 rfl) ?_
          refine lv_iconst (v := (nI 1)) hx hb d_W_keep_57 (by decide) ?_
          refine vd_zast CX HW (j := 11) (i := i) (x := 1) rfl (show i < 121 by omega) (show 1 ≤ 1 by omega) (show 1 ≤ 1 by omega) d_W_keep_58 (fun K6 H locs eK6 HW => ?_)
          refine lv_iload_n hx hb d_W_keep_59 rfl (lv_at hl 3 rfl) ?_
          exact RET _ _ _ _ _ _ d_W_keep_60 (by first | (exfalso; omega) | (refine ⟨?_, by rw [e1], by omega⟩; unfold vd_keep; rw [e1]; first | (rw [if_pos (by omega)]; subst_vars; rfl) | (rw [if_neg (by omega)]; subst_vars; rfl))) HW
      · refine lv_aload_n hx hb d_W_keep_10 rfl (lv_at hl 0 rfl) ?_
        refine lv_iload_n hx hb d_W_keep_11 rfl (lv_at hl 3 rfl) ?_
        refine lv_aload_n hx hb d_W_keep_12 rfl (lv_at hl 1 rfl) ?_
        refine lv_iload_n hx hb d_W_keep_13 rfl (lv_at hl 2 rfl) ?_
        refine vd_callVi (As := [.int (nI i), .ref (ad 1), .int (nI f)]) (rest := []) CX HW (k_alike_33_1 l D ad K i f (by omega) (by omega)) mo_W_isAlike wi_W_isAlike ws_W_isAlike (vr_33 CX HW) ml_W_23 rfl rfl ⟨Nat.le_of_ble_eq_true rfl, Nat.le_of_ble_eq_true rfl⟩ hl.1 (Nat.le_of_ble_eq_true rfl) d_W_keep_14 ⟨Nat.zero_le _, Nat.zero_le _⟩ (fun r7 K8 H locs q9 HW => ?_)
        obtain ⟨rfl, rfl⟩ := q9
        refine vd_ifb_ne (tgt := 26) hx hb d_W_keep_17 (by decide) (fun c_17 => ?_) (fun c_17 => ?_)
        · have e1 : vd_row K 10 45 1 f = i := by
            first
              | (rw [show K 45 0 + 1 - i = 0 by omega] at hf2; exact hf2.symm)
              | (rw [show K 45 0 + 1 - i = (K 45 0 - i) + 1 by omega] at hf2; rw [vd_fs_s, if_pos c_17] at hf2; exact hf2.symm)
          refine lv_iload_n hx hb d_W_keep_26 rfl (lv_at hl 3 rfl) ?_
          refine lv_aload_n hx hb d_W_keep_27 rfl (lv_at hl 0 rfl) ?_
          refine vg_33_last CX HW lk_W_19 d_W_keep_28 (fun b10 => ?_)
          have b10 : K 45 0 ≤ 120 := b10
          refine vd_icmp_le (tgt := 52) hx hb d_W_keep_31 (by decide) (by omega) (by omega) (fun c_31 => ?_) (fun c_31 => ?_)
          · refine lv_aload_n hx hb d_W_keep_52 rfl (lv_at hl 0 rfl) ?_
            refine vg_33_stored CX HW lk_W_15 d_W_keep_53 ?_
            refine lv_iload_n hx hb d_W_keep_56 rfl (lv_at hl 3 rfl) ?_
            refine lv_iconst (v := (nI 1)) hx hb d_W_keep_57 (by decide) ?_
            refine vd_zast CX HW (j := 11) (i := i) (x := 1) rfl (show i < 121 by omega) (show 1 ≤ 1 by omega) (show 1 ≤ 1 by omega) d_W_keep_58 (fun K11 H locs eK11 HW => ?_)
            refine lv_iload_n hx hb d_W_keep_59 rfl (lv_at hl 3 rfl) ?_
            exact RET _ _ _ _ _ _ d_W_keep_60 (by first | (exfalso; omega) | (refine ⟨?_, by rw [e1], by omega⟩; unfold vd_keep; rw [e1]; first | (rw [if_pos (by omega)]; subst_vars; rfl) | (rw [if_neg (by omega)]; subst_vars; rfl))) HW
          · refine lv_aload_n hx hb d_W_keep_34 rfl (lv_at hl 1 rfl) ?_
            refine lv_iload_n hx hb d_W_keep_35 rfl (lv_at hl 2 rfl) ?_
            refine lv_aload_n hx hb d_W_keep_36 rfl (lv_at hl 0 rfl) ?_
            refine vg_33_numbers CX HW lk_W_9 d_W_keep_37 ?_
            refine lv_iload_n hx hb d_W_keep_40 rfl (lv_at hl 3 rfl) ?_
            refine lv_iconst (v := (nI 4)) hx hb d_W_keep_41 (by decide) ?_
            refine vd_imul hx hb d_W_keep_42 ?_
            refine lv_iconst (v := (nI 4)) hx hb d_W_keep_43 (by decide) ?_
            refine vd_copy CX HW (j0 := 1) (j1 := 10) (sp := f) (dp := (i * 4)) (n := 4) rfl rfl (show f + 4 ≤ 16 by omega) (show (i * 4) + 4 ≤ 484 by omega) (fun b hb0 => HW.2.2.2 1 _ (show _ < 16 by omega)) ml_W_27 hl.1 (Nat.le_of_ble_eq_true rfl) (Nat.le_of_ble_eq_true rfl) d_W_keep_44 (fun K12 H locs eK12 HW => ?_)
            refine lv_aload_n hx hb d_W_keep_47 rfl (lv_at hl 0 rfl) ?_
            refine lv_iload_n hx hb d_W_keep_48 rfl (lv_at hl 3 rfl) ?_
            refine vt_33_last CX HW (x := i) (show i ≤ 120 by omega) lk_W_19 d_W_keep_49 (fun K13 H locs eK13 HW => ?_)
            refine lv_aload_n hx hb d_W_keep_52 rfl (lv_at hl 0 rfl) ?_
            refine vg_33_stored CX HW lk_W_15 d_W_keep_53 ?_
            refine lv_iload_n hx hb d_W_keep_56 rfl (lv_at hl 3 rfl) ?_
            refine lv_iconst (v := (nI 1)) hx hb d_W_keep_57 (by decide) ?_
            refine vd_zast CX HW (j := 11) (i := i) (x := 1) rfl (show i < 121 by omega) (show 1 ≤ 1 by omega) (show 1 ≤ 1 by omega) d_W_keep_58 (fun K14 H locs eK14 HW => ?_)
            refine lv_iload_n hx hb d_W_keep_59 rfl (lv_at hl 3 rfl) ?_
            exact RET _ _ _ _ _ _ d_W_keep_60 (by first | (exfalso; omega) | (refine ⟨?_, by rw [e1], by omega⟩; unfold vd_keep; rw [e1]; first | (rw [if_pos (by omega)]; subst_vars; rfl) | (rw [if_neg (by omega)]; subst_vars; rfl))) HW
        · refine lv_iinc (v := (nI (i + 1))) (lv' := [(3, .int (nI (i + 1))), (0, .ref (ad 33)), (1, .ref (ad 1)), (2, .int (nI f))]) hx hb d_W_keep_20 hl (k := 3) rfl (vd_inc _ 1) (by decide) rfl (fun ls hl => ?_)
          refine lv_goto (tgt := 2) hx hb d_W_keep_23 (by decide) ?_
          exact ih2 (i + 1) (by omega) (by omega) (by rw [show K 45 0 + 1 - i = (K 45 0 + 1 - (i + 1)) + 1 by omega] at hf2; rw [vd_fs_s, if_neg (by rw [c_17]; decide)] at hf2; exact hf2) (by omega) H locs ls HW (lv_sub hl [1, 2, 3, 0] rfl)
  exact loop2 122 1 (by omega) (by omega) (by rfl) (by omega) H locs ls HW (lv_sub hl [1, 2, 3, 0] rfl)
set_option maxHeartbeats 1000000 in
set_option maxRecDepth 100000 in
theorem k_alike_33_2 (l : Launch) (D : va_G) (ad : Nat → Nat) (K : KT) (r : Nat) (f : Nat) (hr : r ≤ 120) (hf : f + 4 ≤ 16) : vd_MI l y_W_isAlike c_W_isAlike 5 (some .boolean) 0 0 D ad [.ref (ad 33), .int (nI r), .ref (ad 2), .int (nI f)] K (fun (ans : Int32) (K' : KT) => K = K' ∧ ans = (vd_b (vd_alk K 10 2 r f))) := by
  refine vd_entZ (by decide) (Nat.le_of_ble_eq_true rfl) (lv := [(0, .ref (ad 33)), (1, .int (nI r)), (2, .ref (ad 2)), (3, .int (nI f))]) rfl ?_
  intro p e s m args below meth cd ls Q CX hl H locs HW RET
  have hx := CX.1
  have hb := CX.2.1
  refine lv_iconst (v := (nI 0)) hx hb d_W_isAlike_0 (by decide) ?_
  refine lv_istore (lv' := [(4, .int (nI 0)), (0, .ref (ad 33)), (1, .int (nI r)), (2, .ref (ad 2)), (3, .int (nI f))]) hx hb d_W_isAlike_1 hl (by decide) rfl (fun ls hl => ?_)
  have loop3 : ∀ (n : Nat) (i : Nat), (∀ q, q < i → K 10 (r * 4 + q) = K 2 (f + q)) → (i ≤ 4) → (4 < i + n) → ∀ (H : Heap) (locs : List Loc) (ls : Array Slot), vd_WS D ad s K H locs → lv_has ls 5 [(0, .ref (ad 33)), (1, .int (nI r)), (2, .ref (ad 2)), (3, .int (nI f)), (4, .int (nI i))] → W p l e (vd_R 0 0) s m args below meth cd H locs 0 0 Q (F0 m 3 ls []) := by
    intro n
    induction n with
    | zero => intro i hi hi4 hm; exfalso; omega
    | succ n ih3 =>
      intro i hi hi4 hm H locs ls HW hl
      refine lv_iload hx hb d_W_isAlike_3 (lv_at hl 4 rfl) ?_
      refine lv_iconst (v := (nI 4)) hx hb d_W_isAlike_5 (by decide) ?_
      refine vd_icmp_ge (tgt := 37) hx hb d_W_isAlike_6 (by decide) (by omega) (by omega) (fun c_6 => ?_) (fun c_6 => ?_)
      · refine lv_iconst (v := (nI 1)) hx hb d_W_isAlike_37 (by decide) ?_
        exact RET true _ _ _ _ _ d_W_isAlike_38 (by (refine ⟨rfl, ?_⟩; (· rw [show vd_alk K 10 2 r f = true from vd_eqn_t (fun q hq => hi q (by omega))]))) HW
      · refine lv_aload_n hx hb d_W_isAlike_9 rfl (lv_at hl 0 rfl) ?_
        refine vg_33_numbers CX HW lk_W_9 d_W_isAlike_10 ?_
        refine lv_iload_n hx hb d_W_isAlike_13 rfl (lv_at hl 1 rfl) ?_
        refine lv_iconst (v := (nI 4)) hx hb d_W_isAlike_14 (by decide) ?_
        refine vd_imul hx hb d_W_isAlike_15 ?_
        refine lv_iload hx hb d_W_isAlike_16 (lv_at hl 4 rfl) ?_
        refine vd_iadd hx hb d_W_isAlike_18 ?_
        refine vd_iald CX HW (j := 10) (i := ((r * 4) + i)) rfl (show (r * 4) + i < 484 by omega) d_W_isAlike_19 (fun b1 => ?_)
        have b1 : K 10 ((r * 4) + i) ≤ 9999 := b1
        refine lv_aload_n hx hb d_W_isAlike_20 rfl (lv_at hl 2 rfl) ?_
        refine lv_iload_n hx hb d_W_isAlike_21 rfl (lv_at hl 3 rfl) ?_
        refine lv_iload hx hb d_W_isAlike_22 (lv_at hl 4 rfl) ?_
        refine vd_iadd hx hb d_W_isAlike_24 ?_
        refine vd_iald CX HW (j := 2) (i := (f + i)) rfl (show f + i < 16 by omega) d_W_isAlike_25 (fun b2 => ?_)
        have b2 : K 2 (f + i) ≤ 9999 := b2
        refine vd_icmp_eq (tgt := 31) hx hb d_W_isAlike_26 (by decide) (by omega) (by omega) (fun c_26 => ?_) (fun c_26 => ?_)
        · refine lv_iinc (v := (nI (i + 1))) (lv' := [(4, .int (nI (i + 1))), (0, .ref (ad 33)), (1, .int (nI r)), (2, .ref (ad 2)), (3, .int (nI f))]) hx hb d_W_isAlike_31 hl (k := 4) rfl (vd_inc _ 1) (by decide) rfl (fun ls hl => ?_)
          refine lv_goto (tgt := 3) hx hb d_W_isAlike_34 (by decide) ?_
          exact ih3 (i + 1) (by intro q hq; by_cases e1 : q = i; (· subst e1; exact c_26); (· exact hi q (by omega))) (by omega) (by omega) H locs ls HW (lv_sub hl [1, 2, 3, 4, 0] rfl)
        · refine lv_iconst (v := (nI 0)) hx hb d_W_isAlike_29 (by decide) ?_
          exact RET false _ _ _ _ _ d_W_isAlike_30 (by (refine ⟨rfl, ?_⟩; (· rw [show vd_alk K 10 2 r f = false from vd_eqn_f (fun h => c_26 (h i (by omega)))]))) HW
  exact loop3 5 0 (by intro q hq; omega) (by omega) (by omega) H locs ls HW (lv_sub hl [1, 2, 3, 4, 0] rfl)
set_option maxHeartbeats 1000000 in
set_option maxRecDepth 100000 in
theorem k_keep_33_2 (l : Launch) (D : va_G) (ad : Nat → Nat) (K : KT) (f : Nat) (hf : f + 4 ≤ 16) (hroom : K 45 0 < 120) : vd_MI l y_W_keep c_W_keep 4 (some .int) 1 30 D ad [.ref (ad 33), .ref (ad 2), .int (nI f)] K (fun (ans : Int32) (K' : KT) => K' = vd_keep K 10 11 45 2 f ∧ ans = (nI (vd_row K 10 45 2 f)) ∧ 1 ≤ vd_row K 10 45 2 f ∧ vd_row K 10 45 2 f ≤ 120) := by
  refine vd_entI (by decide) (Nat.le_of_ble_eq_true rfl) (lv := [(0, .ref (ad 33)), (1, .ref (ad 2)), (2, .int (nI f))]) rfl ?_
  intro p e s m args below meth cd ls Q CX hl H locs HW RET
  have hx := CX.1
  have hb := CX.2.1
  refine lv_iconst (v := (nI 1)) hx hb d_W_keep_0 (by decide) ?_
  refine lv_istore_n (lv' := [(3, .int (nI 1)), (0, .ref (ad 33)), (1, .ref (ad 2)), (2, .int (nI f))]) hx hb d_W_keep_1 rfl hl (by decide) rfl (fun ls hl => ?_)
  have loop2 : ∀ (n : Nat) (i : Nat), (1 ≤ i) → (i ≤ K 45 0 + 1) → (vd_fs (fun r => vd_alk K 10 2 r f) i (K 45 0 + 1 - i) = vd_row K 10 45 2 f) → (121 < i + n) → ∀ (H : Heap) (locs : List Loc) (ls : Array Slot), vd_WS D ad s K H locs → lv_has ls 4 [(0, .ref (ad 33)), (1, .ref (ad 2)), (2, .int (nI f)), (3, .int (nI i))] → W p l e (vd_R 1 30) s m args below meth cd H locs 0 0 Q (F0 m 2 ls []) := by
    intro n
    induction n with
    | zero => intro i h1 h2 hf2 hm; exfalso; omega
    | succ n ih2 =>
      intro i h1 h2 hf2 hm H locs ls HW hl
      refine lv_iload_n hx hb d_W_keep_2 rfl (lv_at hl 3 rfl) ?_
      refine lv_aload_n hx hb d_W_keep_3 rfl (lv_at hl 0 rfl) ?_
      refine vg_33_last CX HW lk_W_19 d_W_keep_4 (fun b1 => ?_)
      have b1 : K 45 0 ≤ 120 := b1
      refine vd_icmp_gt (tgt := 26) hx hb d_W_keep_7 (by decide) (by omega) (by omega) (fun c_7 => ?_) (fun c_7 => ?_)
      · have e1 : vd_row K 10 45 2 f = i := by
          first
            | (rw [show K 45 0 + 1 - i = 0 by omega] at hf2; exact hf2.symm)
            | (rw [show K 45 0 + 1 - i = (K 45 0 - i) + 1 by omega] at hf2; rw [vd_fs_s, if_pos c_17] at hf2; exact hf2.symm)
        refine lv_iload_n hx hb d_W_keep_26 rfl (lv_at hl 3 rfl) ?_
        refine lv_aload_n hx hb d_W_keep_27 rfl (lv_at hl 0 rfl) ?_
        refine vg_33_last CX HW lk_W_19 d_W_keep_28 (fun b2 => ?_)
        have b2 : K 45 0 ≤ 120 := b2
        refine vd_icmp_le (tgt := 52) hx hb d_W_keep_31 (by decide) (by omega) (by omega) (fun c_31 => ?_) (fun c_31 => ?_)
        · refine lv_aload_n hx hb d_W_keep_52 rfl (lv_at hl 0 rfl) ?_
          refine vg_33_stored CX HW lk_W_15 d_W_keep_53 ?_
          refine lv_iload_n hx hb d_W_keep_56 rfl (lv_at hl 3 rfl) ?_
          refine lv_iconst (v := (nI 1)) hx hb d_W_keep_57 (by decide) ?_
          refine vd_zast CX HW (j := 11) (i := i) (x := 1) rfl (show i < 121 by omega) (show 1 ≤ 1 by omega) (show 1 ≤ 1 by omega) d_W_keep_58 (fun K3 H locs eK3 HW => ?_)
          refine lv_iload_n hx hb d_W_keep_59 rfl (lv_at hl 3 rfl) ?_
          exact RET _ _ _ _ _ _ d_W_keep_60 (by first | (exfalso; omega) | (refine ⟨?_, by rw [e1], by omega⟩; unfold vd_keep; rw [e1]; first | (rw [if_pos (by omega)]; subst_vars; rfl) | (rw [if_neg (by omega)]; subst_vars; rfl))) HW
        · refine lv_aload_n hx hb d_W_keep_34 rfl (lv_at hl 1 rfl) ?_
          refine lv_iload_n hx hb d_W_keep_35 rfl (lv_at hl 2 rfl) ?_
          refine lv_aload_n hx hb d_W_keep_36 rfl (lv_at hl 0 rfl) ?_
          refine vg_33_numbers CX HW lk_W_9 d_W_keep_37 ?_
          refine lv_iload_n hx hb d_W_keep_40 rfl (lv_at hl 3 rfl) ?_
          refine lv_iconst (v := (nI 4)) hx hb d_W_keep_41 (by decide) ?_
          refine vd_imul hx hb d_W_keep_42 ?_
          refine lv_iconst (v := (nI 4)) hx hb d_W_keep_43 (by decide) ?_
          refine vd_copy CX HW (j0 := 2) (j1 := 10) (sp := f) (dp := (i * 4)) (n := 4) rfl rfl (show f + 4 ≤ 16 by omega) (show (i * 4) + 4 ≤ 484 by omega) (fun b hb0 => HW.2.2.2 2 _ (show _ < 16 by omega)) ml_W_27 hl.1 (Nat.le_of_ble_eq_true rfl) (Nat.le_of_ble_eq_true rfl) d_W_keep_44 (fun K4 H locs eK4 HW => ?_)
          refine lv_aload_n hx hb d_W_keep_47 rfl (lv_at hl 0 rfl) ?_
          refine lv_iload_n hx hb d_W_keep_48 rfl (lv_at hl 3 rfl) ?_
          refine vt_33_last CX HW (x := i) (show i ≤ 120 by omega) lk_W_19 d_W_keep_49 (fun K5 H locs eK5 HW => ?_)
          refine lv_aload_n hx hb d_W_keep_52 rfl (lv_at hl 0 rfl) ?_
          refine vg_33_stored CX HW lk_W_15 d_W_keep_53 ?_
          refine lv_iload_n hx hb d_W_keep_56 rfl (lv_at hl 3 rfl) ?_
          refine lv_iconst (v := (nI 1)) hx hb d_W_keep_57 (by decide) ?_
          refine vd_zast CX HW (j := 11) (i := i) (x := 1) rfl (show i < 121 by omega) (show 1 ≤ 1 by omega) (show 1 ≤ 1 by omega) d_W_keep_58 (fun K6 H locs eK6 HW => ?_)
          refine lv_iload_n hx hb d_W_keep_59 rfl (lv_at hl 3 rfl) ?_
          exact RET _ _ _ _ _ _ d_W_keep_60 (by first | (exfalso; omega) | (refine ⟨?_, by rw [e1], by omega⟩; unfold vd_keep; rw [e1]; first | (rw [if_pos (by omega)]; subst_vars; rfl) | (rw [if_neg (by omega)]; subst_vars; rfl))) HW
      · refine lv_aload_n hx hb d_W_keep_10 rfl (lv_at hl 0 rfl) ?_
        refine lv_iload_n hx hb d_W_keep_11 rfl (lv_at hl 3 rfl) ?_
        refine lv_aload_n hx hb d_W_keep_12 rfl (lv_at hl 1 rfl) ?_
        refine lv_iload_n hx hb d_W_keep_13 rfl (lv_at hl 2 rfl) ?_
        refine vd_callVi (As := [.int (nI i), .ref (ad 2), .int (nI f)]) (rest := []) CX HW (k_alike_33_2 l D ad K i f (by omega) (by omega)) mo_W_isAlike wi_W_isAlike ws_W_isAlike (vr_33 CX HW) ml_W_23 rfl rfl ⟨Nat.le_of_ble_eq_true rfl, Nat.le_of_ble_eq_true rfl⟩ hl.1 (Nat.le_of_ble_eq_true rfl) d_W_keep_14 ⟨Nat.zero_le _, Nat.zero_le _⟩ (fun r7 K8 H locs q9 HW => ?_)
        obtain ⟨rfl, rfl⟩ := q9
        refine vd_ifb_ne (tgt := 26) hx hb d_W_keep_17 (by decide) (fun c_17 => ?_) (fun c_17 => ?_)
        · have e1 : vd_row K 10 45 2 f = i := by
            first
              | (rw [show K 45 0 + 1 - i = 0 by omega] at hf2; exact hf2.symm)
              | (rw [show K 45 0 + 1 - i = (K 45 0 - i) + 1 by omega] at hf2; rw [vd_fs_s, if_pos c_17] at hf2; exact hf2.symm)
          refine lv_iload_n hx hb d_W_keep_26 rfl (lv_at hl 3 rfl) ?_
          refine lv_aload_n hx hb d_W_keep_27 rfl (lv_at hl 0 rfl) ?_
          refine vg_33_last CX HW lk_W_19 d_W_keep_28 (fun b10 => ?_)
          have b10 : K 45 0 ≤ 120 := b10
          refine vd_icmp_le (tgt := 52) hx hb d_W_keep_31 (by decide) (by omega) (by omega) (fun c_31 => ?_) (fun c_31 => ?_)
          · refine lv_aload_n hx hb d_W_keep_52 rfl (lv_at hl 0 rfl) ?_
            refine vg_33_stored CX HW lk_W_15 d_W_keep_53 ?_
            refine lv_iload_n hx hb d_W_keep_56 rfl (lv_at hl 3 rfl) ?_
            refine lv_iconst (v := (nI 1)) hx hb d_W_keep_57 (by decide) ?_
            refine vd_zast CX HW (j := 11) (i := i) (x := 1) rfl (show i < 121 by omega) (show 1 ≤ 1 by omega) (show 1 ≤ 1 by omega) d_W_keep_58 (fun K11 H locs eK11 HW => ?_)
            refine lv_iload_n hx hb d_W_keep_59 rfl (lv_at hl 3 rfl) ?_
            exact RET _ _ _ _ _ _ d_W_keep_60 (by first | (exfalso; omega) | (refine ⟨?_, by rw [e1], by omega⟩; unfold vd_keep; rw [e1]; first | (rw [if_pos (by omega)]; subst_vars; rfl) | (rw [if_neg (by omega)]; subst_vars; rfl))) HW
          · refine lv_aload_n hx hb d_W_keep_34 rfl (lv_at hl 1 rfl) ?_
            refine lv_iload_n hx hb d_W_keep_35 rfl (lv_at hl 2 rfl) ?_
            refine lv_aload_n hx hb d_W_keep_36 rfl (lv_at hl 0 rfl) ?_
            refine vg_33_numbers CX HW lk_W_9 d_W_keep_37 ?_
            refine lv_iload_n hx hb d_W_keep_40 rfl (lv_at hl 3 rfl) ?_
            refine lv_iconst (v := (nI 4)) hx hb d_W_keep_41 (by decide) ?_
            refine vd_imul hx hb d_W_keep_42 ?_
            refine lv_iconst (v := (nI 4)) hx hb d_W_keep_43 (by decide) ?_
            refine vd_copy CX HW (j0 := 2) (j1 := 10) (sp := f) (dp := (i * 4)) (n := 4) rfl rfl (show f + 4 ≤ 16 by omega) (show (i * 4) + 4 ≤ 484 by omega) (fun b hb0 => HW.2.2.2 2 _ (show _ < 16 by omega)) ml_W_27 hl.1 (Nat.le_of_ble_eq_true rfl) (Nat.le_of_ble_eq_true rfl) d_W_keep_44 (fun K12 H locs eK12 HW => ?_)
            refine lv_aload_n hx hb d_W_keep_47 rfl (lv_at hl 0 rfl) ?_
            refine lv_iload_n hx hb d_W_keep_48 rfl (lv_at hl 3 rfl) ?_
            refine vt_33_last CX HW (x := i) (show i ≤ 120 by omega) lk_W_19 d_W_keep_49 (fun K13 H locs eK13 HW => ?_)
            refine lv_aload_n hx hb d_W_keep_52 rfl (lv_at hl 0 rfl) ?_
            refine vg_33_stored CX HW lk_W_15 d_W_keep_53 ?_
            refine lv_iload_n hx hb d_W_keep_56 rfl (lv_at hl 3 rfl) ?_
            refine lv_iconst (v := (nI 1)) hx hb d_W_keep_57 (by decide) ?_
            refine vd_zast CX HW (j := 11) (i := i) (x := 1) rfl (show i < 121 by omega) (show 1 ≤ 1 by omega) (show 1 ≤ 1 by omega) d_W_keep_58 (fun K14 H locs eK14 HW => ?_)
            refine lv_iload_n hx hb d_W_keep_59 rfl (lv_at hl 3 rfl) ?_
            exact RET _ _ _ _ _ _ d_W_keep_60 (by first | (exfalso; omega) | (refine ⟨?_, by rw [e1], by omega⟩; unfold vd_keep; rw [e1]; first | (rw [if_pos (by omega)]; subst_vars; rfl) | (rw [if_neg (by omega)]; subst_vars; rfl))) HW
        · refine lv_iinc (v := (nI (i + 1))) (lv' := [(3, .int (nI (i + 1))), (0, .ref (ad 33)), (1, .ref (ad 2)), (2, .int (nI f))]) hx hb d_W_keep_20 hl (k := 3) rfl (vd_inc _ 1) (by decide) rfl (fun ls hl => ?_)
          refine lv_goto (tgt := 2) hx hb d_W_keep_23 (by decide) ?_
          exact ih2 (i + 1) (by omega) (by omega) (by rw [show K 45 0 + 1 - i = (K 45 0 + 1 - (i + 1)) + 1 by omega] at hf2; rw [vd_fs_s, if_neg (by rw [c_17]; decide)] at hf2; exact hf2) (by omega) H locs ls HW (lv_sub hl [1, 2, 3, 0] rfl)
  exact loop2 122 1 (by omega) (by omega) (by rfl) (by omega) H locs ls HW (lv_sub hl [1, 2, 3, 0] rfl)
set_option maxHeartbeats 1000000 in
set_option maxRecDepth 100000 in
theorem k_get_34 (l : Launch) (D : va_G) (ad : Nat → Nat) (K : KT) (r : Nat) (q : Nat) (hr : r ≤ 30) (hq : q < 4) : vd_MI l y_W_get c_W_get 3 (some .int) 0 0 D ad [.ref (ad 34), .int (nI r), .int (nI q)] K (fun (ans : Int32) (K' : KT) => K = K' ∧ ans = (nI (K 12 (r * 4 + q))) ∧ K 12 (r * 4 + q) ≤ 120) := by
  refine vd_entI (by decide) (Nat.le_of_ble_eq_true rfl) (lv := [(0, .ref (ad 34)), (1, .int (nI r)), (2, .int (nI q))]) rfl ?_
  intro p e s m args below meth cd ls Q CX hl H locs HW RET
  have hx := CX.1
  have hb := CX.2.1
  refine lv_aload_n hx hb d_W_get_0 rfl (lv_at hl 0 rfl) ?_
  refine vg_34_numbers CX HW lk_W_9 d_W_get_1 ?_
  refine lv_iload_n hx hb d_W_get_4 rfl (lv_at hl 1 rfl) ?_
  refine lv_iconst (v := (nI 4)) hx hb d_W_get_5 (by decide) ?_
  refine vd_imul hx hb d_W_get_6 ?_
  refine lv_iload_n hx hb d_W_get_7 rfl (lv_at hl 2 rfl) ?_
  refine vd_iadd hx hb d_W_get_8 ?_
  refine vd_iald CX HW (j := 12) (i := ((r * 4) + q)) rfl (show (r * 4) + q < 124 by omega) d_W_get_9 (fun b1 => ?_)
  have b1 : K 12 ((r * 4) + q) ≤ 120 := b1
  exact RET _ _ _ _ _ _ d_W_get_10 (by (refine ⟨rfl, rfl, ?_⟩; (· omega))) HW
set_option maxHeartbeats 1000000 in
set_option maxRecDepth 100000 in
theorem k_again_34 (l : Launch) (D : va_G) (ad : Nat → Nat) (K : KT) (r : Nat) (hr : r ≤ 30) : vd_MV l y_W_keepAgain c_W_keepAgain 2 0 0 D ad [.ref (ad 34), .int (nI r)] K (fun (K' : KT) => K' = vd_st K 13 r 1) := by
  refine vd_entV (by decide) (Nat.le_of_ble_eq_true rfl) (lv := [(0, .ref (ad 34)), (1, .int (nI r))]) rfl ?_
  intro p e s m args below meth cd ls Q CX hl H locs HW RET
  have hx := CX.1
  have hb := CX.2.1
  refine lv_aload_n hx hb d_W_keepAgain_0 rfl (lv_at hl 0 rfl) ?_
  refine vg_34_stored CX HW lk_W_15 d_W_keepAgain_1 ?_
  refine lv_iload_n hx hb d_W_keepAgain_4 rfl (lv_at hl 1 rfl) ?_
  refine lv_iconst (v := (nI 1)) hx hb d_W_keepAgain_5 (by decide) ?_
  refine vd_zast CX HW (j := 13) (i := r) (x := 1) rfl (show r < 31 by omega) (show 1 ≤ 1 by omega) (show 1 ≤ 1 by omega) d_W_keepAgain_6 (fun K1 H locs eK1 HW => ?_)
  exact RET _ _ _ _ _ d_W_keepAgain_7 (by subst_vars; rfl) HW
set_option maxHeartbeats 1000000 in
set_option maxRecDepth 100000 in
theorem k_rclear_34 (l : Launch) (D : va_G) (ad : Nat → Nat) (K : KT)   : vd_MV l y_W_clear c_W_clear 2 0 0 D ad [.ref (ad 34)] K (fun (K' : KT) => K' = vd_fl K 13 0 31 (fun _ => 0)) := by
  refine vd_entV (by decide) (Nat.le_of_ble_eq_true rfl) (lv := [(0, .ref (ad 34))]) rfl ?_
  intro p e s m args below meth cd ls Q CX hl H locs HW RET
  have hx := CX.1
  have hb := CX.2.1
  refine lv_iconst (v := (nI 0)) hx hb d_W_clear_0 (by decide) ?_
  refine lv_istore_n (lv' := [(1, .int (nI 0)), (0, .ref (ad 34))]) hx hb d_W_clear_1 rfl hl (by decide) rfl (fun ls hl => ?_)
  have loop2 : ∀ (n : Nat) (i : Nat) (Kl : KT), (Kl = vd_fl K 13 0 i (fun _ => 0)) → (i ≤ 31) → (31 < i + n) → ∀ (H : Heap) (locs : List Loc) (ls : Array Slot), vd_WS D ad s Kl H locs → lv_has ls 2 [(0, .ref (ad 34)), (1, .int (nI i))] → W p l e (vd_R 0 0) s m args below meth cd H locs 0 0 Q (F0 m 2 ls []) := by
    intro n
    induction n with
    | zero => intro i Kl hk hi hm; exfalso; omega
    | succ n ih2 =>
      intro i Kl hk hi hm H locs ls HW hl
      refine lv_iload_n hx hb d_W_clear_2 rfl (lv_at hl 1 rfl) ?_
      refine lv_aload_n hx hb d_W_clear_3 rfl (lv_at hl 0 rfl) ?_
      refine vg_34_stored CX HW lk_W_15 d_W_clear_4 ?_
      refine vd_alen1 CX HW (j := 13) rfl d_W_clear_7 ?_
      show W p l e _ s m args below meth cd H locs 0 0 Q (F0 m _ ls [.int (nI 31), .int (nI i)])
      refine vd_icmp_ge (tgt := 24) hx hb d_W_clear_8 (by decide) (by omega) (by omega) (fun c_8 => ?_) (fun c_8 => ?_)
      · exact RET _ _ _ _ _ d_W_clear_24 (by rw [hk, show i = 31 by omega]) HW
      · refine lv_aload_n hx hb d_W_clear_11 rfl (lv_at hl 0 rfl) ?_
        refine vg_34_stored CX HW lk_W_15 d_W_clear_12 ?_
        refine lv_iload_n hx hb d_W_clear_15 rfl (lv_at hl 1 rfl) ?_
        refine lv_iconst (v := (nI 0)) hx hb d_W_clear_16 (by decide) ?_
        refine vd_zast CX HW (j := 13) (i := i) (x := 0) rfl (show i < 31 by omega) (show 0 ≤ 1 by omega) (show 0 ≤ 1 by omega) d_W_clear_17 (fun K1 H locs eK1 HW => ?_)
        refine lv_iinc (v := (nI (i + 1))) (lv' := [(1, .int (nI (i + 1))), (0, .ref (ad 34))]) hx hb d_W_clear_18 hl (k := 1) rfl (vd_inc _ 1) (by decide) rfl (fun ls hl => ?_)
        refine lv_goto (tgt := 2) hx hb d_W_clear_21 (by decide) ?_
        exact ih2 (i + 1) K1 (by exact vd_fl_step hk eK1 (by omega) rfl) (by omega) (by omega) H locs ls HW (lv_sub hl [1, 0] rfl)
  exact loop2 32 0 K (by rw [vd_fl_0]) (by omega) (by omega) H locs ls HW (lv_sub hl [1, 0] rfl)
set_option maxHeartbeats 1000000 in
set_option maxRecDepth 100000 in
theorem k_rsize_34 (l : Launch) (D : va_G) (ad : Nat → Nat) (K : KT)   : vd_MI l y_W_size c_W_size 3 (some .int) 0 0 D ad [.ref (ad 34)] K (fun (ans : Int32) (K' : KT) => K = K' ∧ ans = (nI (vd_rsz K 13 46)) ∧ vd_rsz K 13 46 ≤ 30) := by
  refine vd_entI (by decide) (Nat.le_of_ble_eq_true rfl) (lv := [(0, .ref (ad 34))]) rfl ?_
  intro p e s m args below meth cd ls Q CX hl H locs HW RET
  have hx := CX.1
  have hb := CX.2.1
  have hcap : K 46 0 ≤ 30 := HW.2.2.2 46 0 (by decide)
  refine lv_iconst (v := (nI 0)) hx hb d_W_size_0 (by decide) ?_
  refine lv_istore_n (lv' := [(1, .int (nI 0)), (0, .ref (ad 34))]) hx hb d_W_size_1 rfl hl (by decide) rfl (fun ls hl => ?_)
  refine lv_iconst (v := (nI 1)) hx hb d_W_size_2 (by decide) ?_
  refine lv_istore_n (lv' := [(2, .int (nI 1)), (1, .int (nI 0)), (0, .ref (ad 34))]) hx hb d_W_size_3 rfl hl (by decide) rfl (fun ls hl => ?_)
  have loop4 : ∀ (n : Nat) (a : Nat) (i : Nat), (a = vd_cn (fun r => K 13 (r + 1) != 0) i) → (i ≤ K 46 0) → (31 < i + n) → ∀ (H : Heap) (locs : List Loc) (ls : Array Slot), vd_WS D ad s K H locs → lv_has ls 3 [(0, .ref (ad 34)), (1, .int (nI a)), (2, .int (nI (i + 1)))] → W p l e (vd_R 0 0) s m args below meth cd H locs 0 0 Q (F0 m 4 ls []) := by
    intro n
    induction n with
    | zero => intro a i ha hi hm; exfalso; omega
    | succ n ih4 =>
      intro a i ha hi hm H locs ls HW hl
      refine lv_iload_n hx hb d_W_size_4 rfl (lv_at hl 2 rfl) ?_
      refine lv_aload_n hx hb d_W_size_5 rfl (lv_at hl 0 rfl) ?_
      refine vg_34_last CX HW lk_W_19 d_W_size_6 (fun b1 => ?_)
      have b1 : K 46 0 ≤ 30 := b1
      refine vd_icmp_gt (tgt := 30) hx hb d_W_size_9 (by decide) (by omega) (by omega) (fun c_9 => ?_) (fun c_9 => ?_)
      · refine lv_iload_n hx hb d_W_size_30 rfl (lv_at hl 1 rfl) ?_
        exact RET _ _ _ _ _ _ d_W_size_31 (by have e1 : i = K 46 0 := (by omega); subst e1; (refine ⟨rfl, ?_, ?_⟩; (· rw [ha]; rfl); (· unfold vd_rsz; exact Nat.le_trans (vd_cn_le _ _) (by omega)))) HW
      · refine lv_aload_n hx hb d_W_size_12 rfl (lv_at hl 0 rfl) ?_
        refine vg_34_stored CX HW lk_W_15 d_W_size_13 ?_
        refine lv_iload_n hx hb d_W_size_16 rfl (lv_at hl 2 rfl) ?_
        refine vd_zald CX HW (j := 13) (i := (i + 1)) rfl (show i + 1 < 31 by omega) d_W_size_17 (fun b2 => ?_)
        have b2 : K 13 (i + 1) ≤ 1 := b2
        refine vd_if_eq (tgt := 24) hx hb d_W_size_18 (by decide) (by omega) (fun c_18 => ?_) (fun c_18 => ?_)
        · refine lv_iinc (v := (nI ((i + 1) + 1))) (lv' := [(2, .int (nI ((i + 1) + 1))), (0, .ref (ad 34)), (1, .int (nI a))]) hx hb d_W_size_24 hl (k := 2) rfl (vd_inc _ 1) (by decide) rfl (fun ls hl => ?_)
          refine lv_goto (tgt := 4) hx hb d_W_size_27 (by decide) ?_
          exact ih4 a (i + 1) (by first | exact vd_cn_t ha (by simpa using c_18) | exact vd_cn_f ha (by simpa using c_18)) (by omega) (by omega) H locs ls HW (lv_sub hl [1, 2, 0] rfl)
        · refine lv_iinc (v := (nI (a + 1))) (lv' := [(1, .int (nI (a + 1))), (0, .ref (ad 34)), (2, .int (nI (i + 1)))]) hx hb d_W_size_21 hl (k := 1) rfl (vd_inc _ 1) (by decide) rfl (fun ls hl => ?_)
          refine lv_iinc (v := (nI ((i + 1) + 1))) (lv' := [(2, .int (nI ((i + 1) + 1))), (1, .int (nI (a + 1))), (0, .ref (ad 34))]) hx hb d_W_size_24 hl (k := 2) rfl (vd_inc _ 1) (by decide) rfl (fun ls hl => ?_)
          refine lv_goto (tgt := 4) hx hb d_W_size_27 (by decide) ?_
          exact ih4 (a + 1) (i + 1) (by first | exact vd_cn_t ha (by simpa using c_18) | exact vd_cn_f ha (by simpa using c_18)) (by omega) (by omega) H locs ls HW (lv_sub hl [2, 1, 0] rfl)
  exact loop4 32 0 0 (by rfl) (by omega) (by omega) H locs ls HW (lv_sub hl [2, 1, 0] rfl)
set_option maxHeartbeats 1000000 in
set_option maxRecDepth 100000 in
theorem k_alike_34_8 (l : Launch) (D : va_G) (ad : Nat → Nat) (K : KT) (r : Nat) (f : Nat) (hr : r ≤ 30) (hf : f + 4 ≤ 4) : vd_MI l y_W_isAlike c_W_isAlike 5 (some .boolean) 0 0 D ad [.ref (ad 34), .int (nI r), .ref (ad 8), .int (nI f)] K (fun (ans : Int32) (K' : KT) => K = K' ∧ ans = (vd_b (vd_alk K 12 8 r f))) := by
  refine vd_entZ (by decide) (Nat.le_of_ble_eq_true rfl) (lv := [(0, .ref (ad 34)), (1, .int (nI r)), (2, .ref (ad 8)), (3, .int (nI f))]) rfl ?_
  intro p e s m args below meth cd ls Q CX hl H locs HW RET
  have hx := CX.1
  have hb := CX.2.1
  refine lv_iconst (v := (nI 0)) hx hb d_W_isAlike_0 (by decide) ?_
  refine lv_istore (lv' := [(4, .int (nI 0)), (0, .ref (ad 34)), (1, .int (nI r)), (2, .ref (ad 8)), (3, .int (nI f))]) hx hb d_W_isAlike_1 hl (by decide) rfl (fun ls hl => ?_)
  have loop3 : ∀ (n : Nat) (i : Nat), (∀ q, q < i → K 12 (r * 4 + q) = K 8 (f + q)) → (i ≤ 4) → (4 < i + n) → ∀ (H : Heap) (locs : List Loc) (ls : Array Slot), vd_WS D ad s K H locs → lv_has ls 5 [(0, .ref (ad 34)), (1, .int (nI r)), (2, .ref (ad 8)), (3, .int (nI f)), (4, .int (nI i))] → W p l e (vd_R 0 0) s m args below meth cd H locs 0 0 Q (F0 m 3 ls []) := by
    intro n
    induction n with
    | zero => intro i hi hi4 hm; exfalso; omega
    | succ n ih3 =>
      intro i hi hi4 hm H locs ls HW hl
      refine lv_iload hx hb d_W_isAlike_3 (lv_at hl 4 rfl) ?_
      refine lv_iconst (v := (nI 4)) hx hb d_W_isAlike_5 (by decide) ?_
      refine vd_icmp_ge (tgt := 37) hx hb d_W_isAlike_6 (by decide) (by omega) (by omega) (fun c_6 => ?_) (fun c_6 => ?_)
      · refine lv_iconst (v := (nI 1)) hx hb d_W_isAlike_37 (by decide) ?_
        exact RET true _ _ _ _ _ d_W_isAlike_38 (by (refine ⟨rfl, ?_⟩; (· rw [show vd_alk K 12 8 r f = true from vd_eqn_t (fun q hq => hi q (by omega))]))) HW
      · refine lv_aload_n hx hb d_W_isAlike_9 rfl (lv_at hl 0 rfl) ?_
        refine vg_34_numbers CX HW lk_W_9 d_W_isAlike_10 ?_
        refine lv_iload_n hx hb d_W_isAlike_13 rfl (lv_at hl 1 rfl) ?_
        refine lv_iconst (v := (nI 4)) hx hb d_W_isAlike_14 (by decide) ?_
        refine vd_imul hx hb d_W_isAlike_15 ?_
        refine lv_iload hx hb d_W_isAlike_16 (lv_at hl 4 rfl) ?_
        refine vd_iadd hx hb d_W_isAlike_18 ?_
        refine vd_iald CX HW (j := 12) (i := ((r * 4) + i)) rfl (show (r * 4) + i < 124 by omega) d_W_isAlike_19 (fun b1 => ?_)
        have b1 : K 12 ((r * 4) + i) ≤ 120 := b1
        refine lv_aload_n hx hb d_W_isAlike_20 rfl (lv_at hl 2 rfl) ?_
        refine lv_iload_n hx hb d_W_isAlike_21 rfl (lv_at hl 3 rfl) ?_
        refine lv_iload hx hb d_W_isAlike_22 (lv_at hl 4 rfl) ?_
        refine vd_iadd hx hb d_W_isAlike_24 ?_
        refine vd_iald CX HW (j := 8) (i := (f + i)) rfl (show f + i < 4 by omega) d_W_isAlike_25 (fun b2 => ?_)
        have b2 : K 8 (f + i) ≤ 120 := b2
        refine vd_icmp_eq (tgt := 31) hx hb d_W_isAlike_26 (by decide) (by omega) (by omega) (fun c_26 => ?_) (fun c_26 => ?_)
        · refine lv_iinc (v := (nI (i + 1))) (lv' := [(4, .int (nI (i + 1))), (0, .ref (ad 34)), (1, .int (nI r)), (2, .ref (ad 8)), (3, .int (nI f))]) hx hb d_W_isAlike_31 hl (k := 4) rfl (vd_inc _ 1) (by decide) rfl (fun ls hl => ?_)
          refine lv_goto (tgt := 3) hx hb d_W_isAlike_34 (by decide) ?_
          exact ih3 (i + 1) (by intro q hq; by_cases e1 : q = i; (· subst e1; exact c_26); (· exact hi q (by omega))) (by omega) (by omega) H locs ls HW (lv_sub hl [1, 2, 3, 4, 0] rfl)
        · refine lv_iconst (v := (nI 0)) hx hb d_W_isAlike_29 (by decide) ?_
          exact RET false _ _ _ _ _ d_W_isAlike_30 (by (refine ⟨rfl, ?_⟩; (· rw [show vd_alk K 12 8 r f = false from vd_eqn_f (fun h => c_26 (h i (by omega)))]))) HW
  exact loop3 5 0 (by intro q hq; omega) (by omega) (by omega) H locs ls HW (lv_sub hl [1, 2, 3, 4, 0] rfl)
set_option maxHeartbeats 1000000 in
set_option maxRecDepth 100000 in
theorem k_keep_34_8 (l : Launch) (D : va_G) (ad : Nat → Nat) (K : KT) (f : Nat) (hf : f + 4 ≤ 4) (hroom : K 46 0 < 30) : vd_MI l y_W_keep c_W_keep 4 (some .int) 1 30 D ad [.ref (ad 34), .ref (ad 8), .int (nI f)] K (fun (ans : Int32) (K' : KT) => K' = vd_keep K 12 13 46 8 f ∧ ans = (nI (vd_row K 12 46 8 f)) ∧ 1 ≤ vd_row K 12 46 8 f ∧ vd_row K 12 46 8 f ≤ 30) := by
  refine vd_entI (by decide) (Nat.le_of_ble_eq_true rfl) (lv := [(0, .ref (ad 34)), (1, .ref (ad 8)), (2, .int (nI f))]) rfl ?_
  intro p e s m args below meth cd ls Q CX hl H locs HW RET
  have hx := CX.1
  have hb := CX.2.1
  refine lv_iconst (v := (nI 1)) hx hb d_W_keep_0 (by decide) ?_
  refine lv_istore_n (lv' := [(3, .int (nI 1)), (0, .ref (ad 34)), (1, .ref (ad 8)), (2, .int (nI f))]) hx hb d_W_keep_1 rfl hl (by decide) rfl (fun ls hl => ?_)
  have loop2 : ∀ (n : Nat) (i : Nat), (1 ≤ i) → (i ≤ K 46 0 + 1) → (vd_fs (fun r => vd_alk K 12 8 r f) i (K 46 0 + 1 - i) = vd_row K 12 46 8 f) → (31 < i + n) → ∀ (H : Heap) (locs : List Loc) (ls : Array Slot), vd_WS D ad s K H locs → lv_has ls 4 [(0, .ref (ad 34)), (1, .ref (ad 8)), (2, .int (nI f)), (3, .int (nI i))] → W p l e (vd_R 1 30) s m args below meth cd H locs 0 0 Q (F0 m 2 ls []) := by
    intro n
    induction n with
    | zero => intro i h1 h2 hf2 hm; exfalso; omega
    | succ n ih2 =>
      intro i h1 h2 hf2 hm H locs ls HW hl
      refine lv_iload_n hx hb d_W_keep_2 rfl (lv_at hl 3 rfl) ?_
      refine lv_aload_n hx hb d_W_keep_3 rfl (lv_at hl 0 rfl) ?_
      refine vg_34_last CX HW lk_W_19 d_W_keep_4 (fun b1 => ?_)
      have b1 : K 46 0 ≤ 30 := b1
      refine vd_icmp_gt (tgt := 26) hx hb d_W_keep_7 (by decide) (by omega) (by omega) (fun c_7 => ?_) (fun c_7 => ?_)
      · have e1 : vd_row K 12 46 8 f = i := by
          first
            | (rw [show K 46 0 + 1 - i = 0 by omega] at hf2; exact hf2.symm)
            | (rw [show K 46 0 + 1 - i = (K 46 0 - i) + 1 by omega] at hf2; rw [vd_fs_s, if_pos c_17] at hf2; exact hf2.symm)
        refine lv_iload_n hx hb d_W_keep_26 rfl (lv_at hl 3 rfl) ?_
        refine lv_aload_n hx hb d_W_keep_27 rfl (lv_at hl 0 rfl) ?_
        refine vg_34_last CX HW lk_W_19 d_W_keep_28 (fun b2 => ?_)
        have b2 : K 46 0 ≤ 30 := b2
        refine vd_icmp_le (tgt := 52) hx hb d_W_keep_31 (by decide) (by omega) (by omega) (fun c_31 => ?_) (fun c_31 => ?_)
        · refine lv_aload_n hx hb d_W_keep_52 rfl (lv_at hl 0 rfl) ?_
          refine vg_34_stored CX HW lk_W_15 d_W_keep_53 ?_
          refine lv_iload_n hx hb d_W_keep_56 rfl (lv_at hl 3 rfl) ?_
          refine lv_iconst (v := (nI 1)) hx hb d_W_keep_57 (by decide) ?_
          refine vd_zast CX HW (j := 13) (i := i) (x := 1) rfl (show i < 31 by omega) (show 1 ≤ 1 by omega) (show 1 ≤ 1 by omega) d_W_keep_58 (fun K3 H locs eK3 HW => ?_)
          refine lv_iload_n hx hb d_W_keep_59 rfl (lv_at hl 3 rfl) ?_
          exact RET _ _ _ _ _ _ d_W_keep_60 (by first | (exfalso; omega) | (refine ⟨?_, by rw [e1], by omega⟩; unfold vd_keep; rw [e1]; first | (rw [if_pos (by omega)]; subst_vars; rfl) | (rw [if_neg (by omega)]; subst_vars; rfl))) HW
        · refine lv_aload_n hx hb d_W_keep_34 rfl (lv_at hl 1 rfl) ?_
          refine lv_iload_n hx hb d_W_keep_35 rfl (lv_at hl 2 rfl) ?_
          refine lv_aload_n hx hb d_W_keep_36 rfl (lv_at hl 0 rfl) ?_
          refine vg_34_numbers CX HW lk_W_9 d_W_keep_37 ?_
          refine lv_iload_n hx hb d_W_keep_40 rfl (lv_at hl 3 rfl) ?_
          refine lv_iconst (v := (nI 4)) hx hb d_W_keep_41 (by decide) ?_
          refine vd_imul hx hb d_W_keep_42 ?_
          refine lv_iconst (v := (nI 4)) hx hb d_W_keep_43 (by decide) ?_
          refine vd_copy CX HW (j0 := 8) (j1 := 12) (sp := f) (dp := (i * 4)) (n := 4) rfl rfl (show f + 4 ≤ 4 by omega) (show (i * 4) + 4 ≤ 124 by omega) (fun b hb0 => HW.2.2.2 8 _ (show _ < 4 by omega)) ml_W_27 hl.1 (Nat.le_of_ble_eq_true rfl) (Nat.le_of_ble_eq_true rfl) d_W_keep_44 (fun K4 H locs eK4 HW => ?_)
          refine lv_aload_n hx hb d_W_keep_47 rfl (lv_at hl 0 rfl) ?_
          refine lv_iload_n hx hb d_W_keep_48 rfl (lv_at hl 3 rfl) ?_
          refine vt_34_last CX HW (x := i) (show i ≤ 30 by omega) lk_W_19 d_W_keep_49 (fun K5 H locs eK5 HW => ?_)
          refine lv_aload_n hx hb d_W_keep_52 rfl (lv_at hl 0 rfl) ?_
          refine vg_34_stored CX HW lk_W_15 d_W_keep_53 ?_
          refine lv_iload_n hx hb d_W_keep_56 rfl (lv_at hl 3 rfl) ?_
          refine lv_iconst (v := (nI 1)) hx hb d_W_keep_57 (by decide) ?_
          refine vd_zast CX HW (j := 13) (i := i) (x := 1) rfl (show i < 31 by omega) (show 1 ≤ 1 by omega) (show 1 ≤ 1 by omega) d_W_keep_58 (fun K6 H locs eK6 HW => ?_)
          refine lv_iload_n hx hb d_W_keep_59 rfl (lv_at hl 3 rfl) ?_
          exact RET _ _ _ _ _ _ d_W_keep_60 (by first | (exfalso; omega) | (refine ⟨?_, by rw [e1], by omega⟩; unfold vd_keep; rw [e1]; first | (rw [if_pos (by omega)]; subst_vars; rfl) | (rw [if_neg (by omega)]; subst_vars; rfl))) HW
      · refine lv_aload_n hx hb d_W_keep_10 rfl (lv_at hl 0 rfl) ?_
        refine lv_iload_n hx hb d_W_keep_11 rfl (lv_at hl 3 rfl) ?_
        refine lv_aload_n hx hb d_W_keep_12 rfl (lv_at hl 1 rfl) ?_
        refine lv_iload_n hx hb d_W_keep_13 rfl (lv_at hl 2 rfl) ?_
        refine vd_callVi (As := [.int (nI i), .ref (ad 8), .int (nI f)]) (rest := []) CX HW (k_alike_34_8 l D ad K i f (by omega) (by omega)) mo_W_isAlike wi_W_isAlike ws_W_isAlike (vr_34 CX HW) ml_W_23 rfl rfl ⟨Nat.le_of_ble_eq_true rfl, Nat.le_of_ble_eq_true rfl⟩ hl.1 (Nat.le_of_ble_eq_true rfl) d_W_keep_14 ⟨Nat.zero_le _, Nat.zero_le _⟩ (fun r7 K8 H locs q9 HW => ?_)
        obtain ⟨rfl, rfl⟩ := q9
        refine vd_ifb_ne (tgt := 26) hx hb d_W_keep_17 (by decide) (fun c_17 => ?_) (fun c_17 => ?_)
        · have e1 : vd_row K 12 46 8 f = i := by
            first
              | (rw [show K 46 0 + 1 - i = 0 by omega] at hf2; exact hf2.symm)
              | (rw [show K 46 0 + 1 - i = (K 46 0 - i) + 1 by omega] at hf2; rw [vd_fs_s, if_pos c_17] at hf2; exact hf2.symm)
          refine lv_iload_n hx hb d_W_keep_26 rfl (lv_at hl 3 rfl) ?_
          refine lv_aload_n hx hb d_W_keep_27 rfl (lv_at hl 0 rfl) ?_
          refine vg_34_last CX HW lk_W_19 d_W_keep_28 (fun b10 => ?_)
          have b10 : K 46 0 ≤ 30 := b10
          refine vd_icmp_le (tgt := 52) hx hb d_W_keep_31 (by decide) (by omega) (by omega) (fun c_31 => ?_) (fun c_31 => ?_)
          · refine lv_aload_n hx hb d_W_keep_52 rfl (lv_at hl 0 rfl) ?_
            refine vg_34_stored CX HW lk_W_15 d_W_keep_53 ?_
            refine lv_iload_n hx hb d_W_keep_56 rfl (lv_at hl 3 rfl) ?_
            refine lv_iconst (v := (nI 1)) hx hb d_W_keep_57 (by decide) ?_
            refine vd_zast CX HW (j := 13) (i := i) (x := 1) rfl (show i < 31 by omega) (show 1 ≤ 1 by omega) (show 1 ≤ 1 by omega) d_W_keep_58 (fun K11 H locs eK11 HW => ?_)
            refine lv_iload_n hx hb d_W_keep_59 rfl (lv_at hl 3 rfl) ?_
            exact RET _ _ _ _ _ _ d_W_keep_60 (by first | (exfalso; omega) | (refine ⟨?_, by rw [e1], by omega⟩; unfold vd_keep; rw [e1]; first | (rw [if_pos (by omega)]; subst_vars; rfl) | (rw [if_neg (by omega)]; subst_vars; rfl))) HW
          · refine lv_aload_n hx hb d_W_keep_34 rfl (lv_at hl 1 rfl) ?_
            refine lv_iload_n hx hb d_W_keep_35 rfl (lv_at hl 2 rfl) ?_
            refine lv_aload_n hx hb d_W_keep_36 rfl (lv_at hl 0 rfl) ?_
            refine vg_34_numbers CX HW lk_W_9 d_W_keep_37 ?_
            refine lv_iload_n hx hb d_W_keep_40 rfl (lv_at hl 3 rfl) ?_
            refine lv_iconst (v := (nI 4)) hx hb d_W_keep_41 (by decide) ?_
            refine vd_imul hx hb d_W_keep_42 ?_
            refine lv_iconst (v := (nI 4)) hx hb d_W_keep_43 (by decide) ?_
            refine vd_copy CX HW (j0 := 8) (j1 := 12) (sp := f) (dp := (i * 4)) (n := 4) rfl rfl (show f + 4 ≤ 4 by omega) (show (i * 4) + 4 ≤ 124 by omega) (fun b hb0 => HW.2.2.2 8 _ (show _ < 4 by omega)) ml_W_27 hl.1 (Nat.le_of_ble_eq_true rfl) (Nat.le_of_ble_eq_true rfl) d_W_keep_44 (fun K12 H locs eK12 HW => ?_)
            refine lv_aload_n hx hb d_W_keep_47 rfl (lv_at hl 0 rfl) ?_
            refine lv_iload_n hx hb d_W_keep_48 rfl (lv_at hl 3 rfl) ?_
            refine vt_34_last CX HW (x := i) (show i ≤ 30 by omega) lk_W_19 d_W_keep_49 (fun K13 H locs eK13 HW => ?_)
            refine lv_aload_n hx hb d_W_keep_52 rfl (lv_at hl 0 rfl) ?_
            refine vg_34_stored CX HW lk_W_15 d_W_keep_53 ?_
            refine lv_iload_n hx hb d_W_keep_56 rfl (lv_at hl 3 rfl) ?_
            refine lv_iconst (v := (nI 1)) hx hb d_W_keep_57 (by decide) ?_
            refine vd_zast CX HW (j := 13) (i := i) (x := 1) rfl (show i < 31 by omega) (show 1 ≤ 1 by omega) (show 1 ≤ 1 by omega) d_W_keep_58 (fun K14 H locs eK14 HW => ?_)
            refine lv_iload_n hx hb d_W_keep_59 rfl (lv_at hl 3 rfl) ?_
            exact RET _ _ _ _ _ _ d_W_keep_60 (by first | (exfalso; omega) | (refine ⟨?_, by rw [e1], by omega⟩; unfold vd_keep; rw [e1]; first | (rw [if_pos (by omega)]; subst_vars; rfl) | (rw [if_neg (by omega)]; subst_vars; rfl))) HW
        · refine lv_iinc (v := (nI (i + 1))) (lv' := [(3, .int (nI (i + 1))), (0, .ref (ad 34)), (1, .ref (ad 8)), (2, .int (nI f))]) hx hb d_W_keep_20 hl (k := 3) rfl (vd_inc _ 1) (by decide) rfl (fun ls hl => ?_)
          refine lv_goto (tgt := 2) hx hb d_W_keep_23 (by decide) ?_
          exact ih2 (i + 1) (by omega) (by omega) (by rw [show K 46 0 + 1 - i = (K 46 0 + 1 - (i + 1)) + 1 by omega] at hf2; rw [vd_fs_s, if_neg (by rw [c_17]; decide)] at hf2; exact hf2) (by omega) H locs ls HW (lv_sub hl [1, 2, 3, 0] rfl)
  exact loop2 32 1 (by omega) (by omega) (by rfl) (by omega) H locs ls HW (lv_sub hl [1, 2, 3, 0] rfl)
