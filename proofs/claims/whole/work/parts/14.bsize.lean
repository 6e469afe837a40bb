set_option maxHeartbeats 1000000 in
set_option maxRecDepth 100000 in
theorem k_bsize (l : Launch) (D : va_G) (ad : Nat → Nat) (K : KT)   : vd_MI l y_B_size c_B_size 3 (some .int) 1 21 D ad [.ref (ad 32)] K (fun (ans : Int32) (K' : KT) => K = K' ∧ ans = (nI (vd_bsz K 157)) ∧ vd_bsz K 157 ≤ 10048) := by
  refine vd_entI (by decide) (Nat.le_of_ble_eq_true rfl) (lv := [(0, .ref (ad 32))]) rfl ?_
  intro p e s m args below meth cd ls Q CX hl H locs HW RET
  have hx := CX.1
  have hb := CX.2.1
  refine lv_iconst (v := (nI 0)) hx hb d_B_size_0 (by decide) ?_
  refine lv_istore_n (lv' := [(1, .int (nI 0)), (0, .ref (ad 32))]) hx hb d_B_size_1 rfl hl (by decide) rfl (fun ls hl => ?_)
  refine lv_iconst (v := (nI 0)) hx hb d_B_size_2 (by decide) ?_
  refine lv_istore_n (lv' := [(2, .int (nI 0)), (1, .int (nI 0)), (0, .ref (ad 32))]) hx hb d_B_size_3 rfl hl (by decide) rfl (fun ls hl => ?_)
  have loop4 : ∀ (n : Nat) (i : Nat), (i ≤ 157) → (157 < i + n) → ∀ (H : Heap) (locs : List Loc) (ls : Array Slot), vd_WS D ad s K H locs → lv_has ls 3 [(0, .ref (ad 32)), (1, .int (nI (vd_bsz K i))), (2, .int (nI i))] → W p l e (vd_R 1 21) s m args below meth cd H locs 0 0 Q (F0 m 4 ls []) := by
    intro n
    induction n with
    | zero => intro i hi hm; exfalso; omega
    | succ n ih4 =>
      intro i hi hm H locs ls HW hl
      refine lv_iload_n hx hb d_B_size_4 rfl (lv_at hl 2 rfl) ?_
      refine lv_aload_n hx hb d_B_size_5 rfl (lv_at hl 0 rfl) ?_
      refine vg_32_bits CX HW lk_B_11 d_B_size_6 ?_
      refine vd_alen2 CX HW (j := 9) rfl d_B_size_9 ?_
      show W p l e _ s m args below meth cd H locs 0 0 Q (F0 m _ ls [.int (nI 157), .int (nI i)])
      refine vd_icmp_ge (tgt := 31) hx hb d_B_size_10 (by decide) (by omega) (by omega) (fun c_10 => ?_) (fun c_10 => ?_)
      · refine lv_iload_n hx hb d_B_size_31 rfl (lv_at hl 1 rfl) ?_
        exact RET _ _ _ _ _ _ d_B_size_32 (by rw [show i = 157 by omega]; exact ⟨rfl, rfl, vd_bsz_le K 157⟩) HW
      · refine lv_iload_n hx hb d_B_size_13 rfl (lv_at hl 1 rfl) ?_
        refine lv_aload_n hx hb d_B_size_14 rfl (lv_at hl 0 rfl) ?_
        refine vg_32_bits CX HW lk_B_11 d_B_size_15 ?_
        refine lv_iload_n hx hb d_B_size_18 rfl (lv_at hl 2 rfl) ?_
        refine vd_lald CX HW (j := 9) (i := i) rfl (show i < 157 by omega) d_B_size_19 (fun b1 => ?_)
        have b1 : K 9 i ≤ 18446744073709551615 := b1
        refine vd_callSi (As := [.long (lN (K 9 i))]) (rest := [.int (nI (vd_bsz K i))]) CX HW (k_lbc l D ad K (K 9 i) (by omega)) mo_J_bitCount wt_J_bitCount ml_B_15 rfl rfl ⟨Nat.le_of_ble_eq_true rfl, Nat.le_of_ble_eq_true rfl⟩ hl.1 (Nat.le_of_ble_eq_true rfl) d_B_size_20 ⟨Nat.zero_le _, Nat.zero_le _⟩ (fun r2 K3 H locs q4 HW => ?_)
        obtain ⟨rfl, rfl, b5⟩ := q4
        have b5 : vd_pc 64 (K 9 i) ≤ 64 := b5
        refine vd_iadd hx hb d_B_size_23 ?_
        refine lv_istore_n (lv' := [(1, .int (nI ((vd_bsz K i) + (vd_pc 64 (K 9 i))))), (0, .ref (ad 32)), (2, .int (nI i))]) hx hb d_B_size_24 rfl hl (by decide) rfl (fun ls hl => ?_)
        refine lv_iinc (v := (nI (i + 1))) (lv' := [(2, .int (nI (i + 1))), (1, .int (nI ((vd_bsz K i) + (vd_pc 64 (K 9 i))))), (0, .ref (ad 32))]) hx hb d_B_size_25 hl (k := 2) rfl (vd_inc _ 1) (by decide) rfl (fun ls hl => ?_)
        refine lv_goto (tgt := 4) hx hb d_B_size_28 (by decide) ?_
        exact ih4 (i + 1) (by omega) (by omega) H locs ls HW (lv_sub hl [2, 1, 0] rfl)
  exact loop4 158 0 (by omega) (by omega) H locs ls HW (lv_sub hl [2, 1, 0] rfl)
