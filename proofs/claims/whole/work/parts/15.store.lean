set_option maxHeartbeats 1000000 in
set_option maxRecDepth 100000 in
theorem k_isFull (l : Launch) (D : va_G) (ad : Nat → Nat) (K : KT)   : vd_MI l y_S_isFull c_S_isFull 1 (some .boolean) 0 0 D ad [.ref (ad 31)] K (fun (ans : Int32) (K' : KT) => K = K' ∧ ans = (vd_b (decide (30 ≤ K 43 0)))) := by
  refine vd_entZ (by decide) (Nat.le_of_ble_eq_true rfl) (lv := [(0, .ref (ad 31))]) rfl ?_
  intro p e s m args below meth cd ls Q CX hl H locs HW RET
  have hx := CX.1
  have hb := CX.2.1
  refine lv_aload_n hx hb d_S_isFull_0 rfl (lv_at hl 0 rfl) ?_
  refine vg_31_made CX HW lk_S_46 d_S_isFull_1 (fun b1 => ?_)
  have b1 : K 43 0 ≤ 30 := b1
  refine lv_bipush (v := (nI 30)) hx hb d_S_isFull_4 (by decide) ?_
  refine vd_icmp_lt (tgt := 13) hx hb d_S_isFull_6 (by decide) (by omega) (by omega) (fun c_6 => ?_) (fun c_6 => ?_)
  · refine lv_iconst (v := (nI 0)) hx hb d_S_isFull_13 (by decide) ?_
    exact RET false _ _ _ _ _ d_S_isFull_14 (by (refine ⟨rfl, ?_⟩; (· rw [decide_eq_false (by omega)]))) HW
  · refine lv_iconst (v := (nI 1)) hx hb d_S_isFull_9 (by decide) ?_
    refine lv_goto (tgt := 14) hx hb d_S_isFull_10 (by decide) ?_
    exact RET true _ _ _ _ _ d_S_isFull_14 (by (refine ⟨rfl, ?_⟩; (· rw [decide_eq_true (by omega)]))) HW
set_option maxHeartbeats 1000000 in
set_option maxRecDepth 100000 in
theorem k_holds (l : Launch) (D : va_G) (ad : Nat → Nat) (K : KT) (x : Int32)  : vd_MI l y_S_holds c_S_holds 2 (some .boolean) 0 0 D ad [.ref (ad 31), .int x] K (fun (ans : Int32) (K' : KT) => K = K' ∧ ans = (vd_b (vd_hol K x))) := by
  refine vd_entZ (by decide) (Nat.le_of_ble_eq_true rfl) (lv := [(0, .ref (ad 31)), (1, .int x)]) rfl ?_
  intro p e s m args below meth cd ls Q CX hl H locs HW RET
  have hx := CX.1
  have hb := CX.2.1
  refine lv_iload_n hx hb d_S_holds_0 rfl (lv_at hl 1 rfl) ?_
  refine lv_iconst (v := (nI 1)) hx hb d_S_holds_1 (by decide) ?_
  refine lv_icmp_lt (tgt := 26) hx hb d_S_holds_2 (by decide) (fun c_2 => ?_) (fun c_2 => ?_)
  · refine lv_iconst (v := (nI 0)) hx hb d_S_holds_26 (by decide) ?_
    exact RET false _ _ _ _ _ d_S_holds_27 (by first | (refine ⟨rfl, ?_⟩; (· simp [vd_hol, vd_in_n hc1 hc2 (by decide), nI_clamp (show c < 2 ^ 31 by omega), vd_bit1.mp c_19])) | (refine ⟨rfl, ?_⟩; (· simp [vd_hol, vd_in_n hc1 hc2 (by decide), nI_clamp (show c < 2 ^ 31 by omega), vd_bit0.mp c_19])) | (rw [vd_gtI (by decide)] at c_8; (refine ⟨rfl, ?_⟩; (· simp [vd_hol, vd_in_h (lo := 1) (hi := 30) (x := x) (by omega)]))) | (rw [vd_ltI (by decide)] at c_2; (refine ⟨rfl, ?_⟩; (· simp [vd_hol, vd_in_l (lo := 1) (hi := 30) (x := x) (by omega)])))) HW
  · refine lv_iload_n hx hb d_S_holds_5 rfl (lv_at hl 1 rfl) ?_
    refine lv_bipush (v := (nI 30)) hx hb d_S_holds_6 (by decide) ?_
    refine lv_icmp_gt (tgt := 26) hx hb d_S_holds_8 (by decide) (fun c_8 => ?_) (fun c_8 => ?_)
    · refine lv_iconst (v := (nI 0)) hx hb d_S_holds_26 (by decide) ?_
      exact RET false _ _ _ _ _ d_S_holds_27 (by first | (refine ⟨rfl, ?_⟩; (· simp [vd_hol, vd_in_n hc1 hc2 (by decide), nI_clamp (show c < 2 ^ 31 by omega), vd_bit1.mp c_19])) | (refine ⟨rfl, ?_⟩; (· simp [vd_hol, vd_in_n hc1 hc2 (by decide), nI_clamp (show c < 2 ^ 31 by omega), vd_bit0.mp c_19])) | (rw [vd_gtI (by decide)] at c_8; (refine ⟨rfl, ?_⟩; (· simp [vd_hol, vd_in_h (lo := 1) (hi := 30) (x := x) (by omega)]))) | (rw [vd_ltI (by decide)] at c_2; (refine ⟨rfl, ?_⟩; (· simp [vd_hol, vd_in_l (lo := 1) (hi := 30) (x := x) (by omega)])))) HW
    · obtain ⟨c, hc1, hc2, rfl⟩ := vd_ofI (lo := 1) (hi := 30) (x := x) (by rw [vd_ltI (by decide)] at c_2; omega) (by rw [vd_gtI (by decide)] at c_8; omega)
      refine lv_aload_n hx hb d_S_holds_11 rfl (lv_at hl 0 rfl) ?_
      refine vg_31_stored CX HW lk_S_50 d_S_holds_12 (fun b1 => ?_)
      have b1 : K 44 0 ≤ 2147483647 := b1
      refine lv_iconst (v := (nI 1)) hx hb d_S_holds_15 (by decide) ?_
      refine lv_iload_n hx hb d_S_holds_16 rfl (lv_at hl 1 rfl) ?_
      refine vd_shl1 hx hb (by omega) d_S_holds_17 ?_
      refine vd_iand hx hb d_S_holds_18 ?_
      have b9 : K 44 0 &&& 2 ^ c ≤ 2147483647 := vd_and31 (by omega)
      refine vd_if_eq (tgt := 26) hx hb d_S_holds_19 (by decide) (by omega) (fun c_19 => ?_) (fun c_19 => ?_)
      · refine lv_iconst (v := (nI 0)) hx hb d_S_holds_26 (by decide) ?_
        exact RET false _ _ _ _ _ d_S_holds_27 (by first | (refine ⟨rfl, ?_⟩; (· simp [vd_hol, vd_in_n hc1 hc2 (by decide), nI_clamp (show c < 2 ^ 31 by omega), vd_bit1.mp c_19])) | (refine ⟨rfl, ?_⟩; (· simp [vd_hol, vd_in_n hc1 hc2 (by decide), nI_clamp (show c < 2 ^ 31 by omega), vd_bit0.mp c_19])) | (rw [vd_gtI (by decide)] at c_8; (refine ⟨rfl, ?_⟩; (· simp [vd_hol, vd_in_h (lo := 1) (hi := 30) (x := x) (by omega)]))) | (rw [vd_ltI (by decide)] at c_2; (refine ⟨rfl, ?_⟩; (· simp [vd_hol, vd_in_l (lo := 1) (hi := 30) (x := x) (by omega)])))) HW
      · refine lv_iconst (v := (nI 1)) hx hb d_S_holds_22 (by decide) ?_
        refine lv_goto (tgt := 27) hx hb d_S_holds_23 (by decide) ?_
        exact RET true _ _ _ _ _ d_S_holds_27 (by first | (refine ⟨rfl, ?_⟩; (· simp [vd_hol, vd_in_n hc1 hc2 (by decide), nI_clamp (show c < 2 ^ 31 by omega), vd_bit1.mp c_19])) | (refine ⟨rfl, ?_⟩; (· simp [vd_hol, vd_in_n hc1 hc2 (by decide), nI_clamp (show c < 2 ^ 31 by omega), vd_bit0.mp c_19])) | (rw [vd_gtI (by decide)] at c_8; (refine ⟨rfl, ?_⟩; (· simp [vd_hol, vd_in_h (lo := 1) (hi := 30) (x := x) (by omega)]))) | (rw [vd_ltI (by decide)] at c_2; (refine ⟨rfl, ?_⟩; (· simp [vd_hol, vd_in_l (lo := 1) (hi := 30) (x := x) (by omega)])))) HW
set_option maxHeartbeats 1000000 in
set_option maxRecDepth 100000 in
theorem k_contentOf (l : Launch) (D : va_G) (ad : Nat → Nat) (K : KT) (cc0 : Nat) (f : Nat) (hc : cc0 ≤ 30) (hf : f < 16) : vd_MI l y_S_contentOf c_S_contentOf 3 (some .int) 1 22 D ad [.ref (ad 31), .int (nI cc0), .int (nI f)] K (fun (ans : Int32) (K' : KT) => K = K' ∧ ans = (nI (vd_cnt K cc0 f)) ∧ vd_cnt K cc0 f ≤ 9999) := by
  refine vd_entI (by decide) (Nat.le_of_ble_eq_true rfl) (lv := [(0, .ref (ad 31)), (1, .int (nI cc0)), (2, .int (nI f))]) rfl ?_
  intro p e s m args below meth cd ls Q CX hl H locs HW RET
  have hx := CX.1
  have hb := CX.2.1
  refine lv_aload_n hx hb d_S_contentOf_0 rfl (lv_at hl 0 rfl) ?_
  refine vg_31_folders CX HW lk_S_23 d_S_contentOf_1 ?_
  refine lv_aload_n hx hb d_S_contentOf_4 rfl (lv_at hl 0 rfl) ?_
  refine vg_31_roots CX HW lk_S_27 d_S_contentOf_5 ?_
  refine lv_aload_n hx hb d_S_contentOf_8 rfl (lv_at hl 0 rfl) ?_
  refine vg_31_rootOf CX HW lk_S_30 d_S_contentOf_9 ?_
  refine lv_iload_n hx hb d_S_contentOf_12 rfl (lv_at hl 1 rfl) ?_
  refine vd_iald CX HW (j := 4) (i := cc0) rfl (show cc0 < 31 by omega) d_S_contentOf_13 (fun b1 => ?_)
  have b1 : K 4 cc0 ≤ 30 := b1
  refine lv_iload_n hx hb d_S_contentOf_14 rfl (lv_at hl 2 rfl) ?_
  refine lv_iconst (v := (nI 4)) hx hb d_S_contentOf_15 (by decide) ?_
  refine vd_idiv hx hb (by omega) (by omega) (by omega) d_S_contentOf_16 ?_
  refine vd_callVi (As := [.int (nI (K 4 cc0)), .int (nI (f / 4))]) (rest := [.ref (ad 33)]) CX HW (k_get_34 l D ad K (K 4 cc0) (f / 4) (by omega) (by omega)) mo_W_get wi_W_get ws_W_get (vr_34 CX HW) ml_S_67 rfl rfl ⟨Nat.le_of_ble_eq_true rfl, Nat.le_of_ble_eq_true rfl⟩ hl.1 (Nat.le_of_ble_eq_true rfl) d_S_contentOf_17 ⟨Nat.zero_le _, Nat.zero_le _⟩ (fun r2 K3 H locs q4 HW => ?_)
  obtain ⟨rfl, rfl, b5⟩ := q4
  have b5 : K 12 ((K 4 cc0) * 4 + (f / 4)) ≤ 120 := b5
  refine lv_iload_n hx hb d_S_contentOf_20 rfl (lv_at hl 2 rfl) ?_
  refine lv_iconst (v := (nI 4)) hx hb d_S_contentOf_21 (by decide) ?_
  refine vd_irem hx hb (by omega) (by omega) (by omega) d_S_contentOf_22 ?_
  refine vd_callVi (As := [.int (nI (K 12 ((K 4 cc0) * 4 + (f / 4)))), .int (nI (f % 4))]) (rest := []) CX HW (k_get_33 l D ad K (K 12 ((K 4 cc0) * 4 + (f / 4))) (f % 4) (by omega) (by omega)) mo_W_get wi_W_get ws_W_get (vr_33 CX HW) ml_S_67 rfl rfl ⟨Nat.le_of_ble_eq_true rfl, Nat.le_of_ble_eq_true rfl⟩ hl.1 (Nat.le_of_ble_eq_true rfl) d_S_contentOf_23 ⟨Nat.zero_le _, Nat.zero_le _⟩ (fun r6 K7 H locs q8 HW => ?_)
  obtain ⟨rfl, rfl, b9⟩ := q8
  have b9 : K 10 ((K 12 ((K 4 cc0) * 4 + (f / 4))) * 4 + (f % 4)) ≤ 9999 := b9
  exact RET _ _ _ _ _ _ d_S_contentOf_26 (by (refine ⟨rfl, rfl, ?_⟩; (· unfold vd_cnt; omega))) HW
set_option maxHeartbeats 1000000 in
set_option maxRecDepth 100000 in
theorem k_parentOf (l : Launch) (D : va_G) (ad : Nat → Nat) (K : KT) (cc0 : Nat) (w : Nat) (hc : cc0 ≤ 30) (hw : w ≤ 1) : vd_MI l y_S_parentOf c_S_parentOf 3 (some .int) 0 0 D ad [.ref (ad 31), .int (nI cc0), .int (nI w)] K (fun (ans : Int32) (K' : KT) => K = K' ∧ ans = (nI (if w = 0 then K 5 cc0 else K 6 cc0)) ∧ (if w = 0 then K 5 cc0 else K 6 cc0) ≤ 30) := by
  refine vd_entI (by decide) (Nat.le_of_ble_eq_true rfl) (lv := [(0, .ref (ad 31)), (1, .int (nI cc0)), (2, .int (nI w))]) rfl ?_
  intro p e s m args below meth cd ls Q CX hl H locs HW RET
  have hx := CX.1
  have hb := CX.2.1
  refine lv_iload_n hx hb d_S_parentOf_0 rfl (lv_at hl 2 rfl) ?_
  refine vd_if_ne (tgt := 13) hx hb d_S_parentOf_1 (by decide) (by omega) (fun c_1 => ?_) (fun c_1 => ?_)
  · refine lv_aload_n hx hb d_S_parentOf_13 rfl (lv_at hl 0 rfl) ?_
    refine vg_31_secondParents CX HW lk_S_37 d_S_parentOf_14 ?_
    refine lv_iload_n hx hb d_S_parentOf_17 rfl (lv_at hl 1 rfl) ?_
    refine vd_iald CX HW (j := 6) (i := cc0) rfl (show cc0 < 31 by omega) d_S_parentOf_18 (fun b1 => ?_)
    have b1 : K 6 cc0 ≤ 30 := b1
    exact RET _ _ _ _ _ _ d_S_parentOf_19 (by first | (refine ⟨rfl, ?_, ?_⟩; (· rw [if_pos c_1]); (· rw [if_pos c_1]; omega)) | (refine ⟨rfl, ?_, ?_⟩; (· rw [if_neg c_1]); (· rw [if_neg c_1]; omega))) HW
  · refine lv_aload_n hx hb d_S_parentOf_4 rfl (lv_at hl 0 rfl) ?_
    refine vg_31_firstParents CX HW lk_S_34 d_S_parentOf_5 ?_
    refine lv_iload_n hx hb d_S_parentOf_8 rfl (lv_at hl 1 rfl) ?_
    refine vd_iald CX HW (j := 5) (i := cc0) rfl (show cc0 < 31 by omega) d_S_parentOf_9 (fun b2 => ?_)
    have b2 : K 5 cc0 ≤ 30 := b2
    refine lv_goto (tgt := 19) hx hb d_S_parentOf_10 (by decide) ?_
    exact RET _ _ _ _ _ _ d_S_parentOf_19 (by first | (refine ⟨rfl, ?_, ?_⟩; (· rw [if_pos c_1]); (· rw [if_pos c_1]; omega)) | (refine ⟨rfl, ?_, ?_⟩; (· rw [if_neg c_1]); (· rw [if_neg c_1]; omega))) HW
set_option maxHeartbeats 1000000 in
set_option maxRecDepth 100000 in
theorem k_ancOf (l : Launch) (D : va_G) (ad : Nat → Nat) (K : KT) (cc0 : Nat) (hc : cc0 ≤ 30) : vd_MI l y_S_ancestorsOf c_S_ancestorsOf 2 (some .int) 0 0 D ad [.ref (ad 31), .int (nI cc0)] K (fun (ans : Int32) (K' : KT) => K = K' ∧ ans = (nI (K 7 cc0)) ∧ K 7 cc0 ≤ 2147483647) := by
  refine vd_entI (by decide) (Nat.le_of_ble_eq_true rfl) (lv := [(0, .ref (ad 31)), (1, .int (nI cc0))]) rfl ?_
  intro p e s m args below meth cd ls Q CX hl H locs HW RET
  have hx := CX.1
  have hb := CX.2.1
  refine lv_aload_n hx hb d_S_ancestorsOf_0 rfl (lv_at hl 0 rfl) ?_
  refine vg_31_ancestors CX HW lk_S_40 d_S_ancestorsOf_1 ?_
  refine lv_iload_n hx hb d_S_ancestorsOf_4 rfl (lv_at hl 1 rfl) ?_
  refine vd_iald CX HW (j := 7) (i := cc0) rfl (show cc0 < 31 by omega) d_S_ancestorsOf_5 (fun b1 => ?_)
  have b1 : K 7 cc0 ≤ 2147483647 := b1
  exact RET _ _ _ _ _ _ d_S_ancestorsOf_6 (by (refine ⟨rfl, rfl, ?_⟩; (· omega))) HW
set_option maxHeartbeats 1000000 in
set_option maxRecDepth 100000 in
theorem k_leadsTo (l : Launch) (D : va_G) (ad : Nat → Nat) (K : KT) (cc0 : Nat) (a : Nat) (hc : cc0 ≤ 30) (ha : a ≤ 30) : vd_MI l y_S_leadsTo c_S_leadsTo 3 (some .boolean) 0 0 D ad [.ref (ad 31), .int (nI cc0), .int (nI a)] K (fun (ans : Int32) (K' : KT) => K = K' ∧ ans = (vd_b ((K 7 cc0).testBit a))) := by
  refine vd_entZ (by decide) (Nat.le_of_ble_eq_true rfl) (lv := [(0, .ref (ad 31)), (1, .int (nI cc0)), (2, .int (nI a))]) rfl ?_
  intro p e s m args below meth cd ls Q CX hl H locs HW RET
  have hx := CX.1
  have hb := CX.2.1
  refine lv_aload_n hx hb d_S_leadsTo_0 rfl (lv_at hl 0 rfl) ?_
  refine vg_31_ancestors CX HW lk_S_40 d_S_leadsTo_1 ?_
  refine lv_iload_n hx hb d_S_leadsTo_4 rfl (lv_at hl 1 rfl) ?_
  refine vd_iald CX HW (j := 7) (i := cc0) rfl (show cc0 < 31 by omega) d_S_leadsTo_5 (fun b1 => ?_)
  have b1 : K 7 cc0 ≤ 2147483647 := b1
  refine lv_iconst (v := (nI 1)) hx hb d_S_leadsTo_6 (by decide) ?_
  refine lv_iload_n hx hb d_S_leadsTo_7 rfl (lv_at hl 2 rfl) ?_
  refine vd_shl1 hx hb (by omega) d_S_leadsTo_8 ?_
  refine vd_iand hx hb d_S_leadsTo_9 ?_
  have b9 : K 7 cc0 &&& 2 ^ a ≤ 2147483647 := vd_and31 (by omega)
  refine vd_if_eq (tgt := 17) hx hb d_S_leadsTo_10 (by decide) (by omega) (fun c_10 => ?_) (fun c_10 => ?_)
  · refine lv_iconst (v := (nI 0)) hx hb d_S_leadsTo_17 (by decide) ?_
    exact RET false _ _ _ _ _ d_S_leadsTo_18 (by first | (refine ⟨rfl, ?_⟩; (· rw [vd_bit1.mp c_10])) | (refine ⟨rfl, ?_⟩; (· rw [vd_bit0.mp c_10]))) HW
  · refine lv_iconst (v := (nI 1)) hx hb d_S_leadsTo_13 (by decide) ?_
    refine lv_goto (tgt := 18) hx hb d_S_leadsTo_14 (by decide) ?_
    exact RET true _ _ _ _ _ d_S_leadsTo_18 (by first | (refine ⟨rfl, ?_⟩; (· rw [vd_bit1.mp c_10])) | (refine ⟨rfl, ?_⟩; (· rw [vd_bit0.mp c_10]))) HW
set_option maxHeartbeats 1000000 in
set_option maxRecDepth 100000 in
theorem k_meet (l : Launch) (D : va_G) (ad : Nat → Nat) (K : KT) (a : Nat) (b : Nat) (ha : a ≤ 30) (hb2 : b ≤ 30) : vd_MI l y_S_meetingOf c_S_meetingOf 5 (some .int) 0 0 D ad [.ref (ad 31), .int (nI a), .int (nI b)] K (fun (ans : Int32) (K' : KT) => K = K' ∧ ans = (nI (vd_top (K 7 a &&& K 7 b) 30)) ∧ vd_top (K 7 a &&& K 7 b) 30 ≤ 30) := by
  refine vd_entI (by decide) (Nat.le_of_ble_eq_true rfl) (lv := [(0, .ref (ad 31)), (1, .int (nI a)), (2, .int (nI b))]) rfl ?_
  intro p e s m args below meth cd ls Q CX hl H locs HW RET
  have hx := CX.1
  have hb := CX.2.1
  refine lv_aload_n hx hb d_S_meetingOf_0 rfl (lv_at hl 0 rfl) ?_
  refine vg_31_ancestors CX HW lk_S_40 d_S_meetingOf_1 ?_
  refine lv_iload_n hx hb d_S_meetingOf_4 rfl (lv_at hl 1 rfl) ?_
  refine vd_iald CX HW (j := 7) (i := a) rfl (show a < 31 by omega) d_S_meetingOf_5 (fun b1 => ?_)
  have b1 : K 7 a ≤ 2147483647 := b1
  refine lv_aload_n hx hb d_S_meetingOf_6 rfl (lv_at hl 0 rfl) ?_
  refine vg_31_ancestors CX HW lk_S_40 d_S_meetingOf_7 ?_
  refine lv_iload_n hx hb d_S_meetingOf_10 rfl (lv_at hl 2 rfl) ?_
  refine vd_iald CX HW (j := 7) (i := b) rfl (show b < 31 by omega) d_S_meetingOf_11 (fun b2 => ?_)
  have b2 : K 7 b ≤ 2147483647 := b2
  refine vd_iand hx hb d_S_meetingOf_12 ?_
  refine lv_istore_n (lv' := [(3, .int (nI ((K 7 a) &&& (K 7 b)))), (0, .ref (ad 31)), (1, .int (nI a)), (2, .int (nI b))]) hx hb d_S_meetingOf_13 rfl hl (by decide) rfl (fun ls hl => ?_)
  refine lv_bipush (v := (nI 30)) hx hb d_S_meetingOf_14 (by decide) ?_
  refine lv_istore (lv' := [(4, .int (nI 30)), (3, .int (nI ((K 7 a) &&& (K 7 b)))), (0, .ref (ad 31)), (1, .int (nI a)), (2, .int (nI b))]) hx hb d_S_meetingOf_16 hl (by decide) rfl (fun ls hl => ?_)
  have loop18 : ∀ (n : Nat) (i : Nat), (i ≤ 30) → (vd_top (K 7 a &&& K 7 b) 30 = vd_top (K 7 a &&& K 7 b) i) → (i < n) → ∀ (H : Heap) (locs : List Loc) (ls : Array Slot), vd_WS D ad s K H locs → lv_has ls 5 [(0, .ref (ad 31)), (1, .int (nI a)), (2, .int (nI b)), (3, .int (nI (K 7 a &&& K 7 b))), (4, .int (nI i))] → W p l e (vd_R 0 0) s m args below meth cd H locs 0 0 Q (F0 m 18 ls []) := by
    intro n
    induction n with
    | zero => intro i hi ht hm; exfalso; omega
    | succ n ih18 =>
      intro i hi ht hm H locs ls HW hl
      refine lv_iload hx hb d_S_meetingOf_18 (lv_at hl 4 rfl) ?_
      refine vd_if_le (tgt := 38) hx hb d_S_meetingOf_20 (by decide) (by omega) (fun c_20 => ?_) (fun c_20 => ?_)
      · refine lv_iload hx hb d_S_meetingOf_38 (lv_at hl 4 rfl) ?_
        exact RET _ _ _ _ _ _ d_S_meetingOf_40 (by first | (rw [ht, c_20]; exact ⟨rfl, rfl, Nat.zero_le _⟩) | (have e1 : vd_top (K 7 a &&& K 7 b) (j + 1) = j + 1 := (by rw [vd_top_s, if_pos (vd_bit1.mp c_29)]); rw [ht, e1]; exact ⟨rfl, rfl, hi⟩)) HW
      · obtain ⟨j, rfl⟩ : ∃ j, i = j + 1 := ⟨i - 1, by omega⟩
        refine lv_iload_n hx hb d_S_meetingOf_23 rfl (lv_at hl 3 rfl) ?_
        refine lv_iconst (v := (nI 1)) hx hb d_S_meetingOf_24 (by decide) ?_
        refine lv_iload hx hb d_S_meetingOf_25 (lv_at hl 4 rfl) ?_
        refine vd_shl1 hx hb (by omega) d_S_meetingOf_27 ?_
        refine vd_iand hx hb d_S_meetingOf_28 ?_
        have b9 : K 7 a &&& K 7 b &&& 2 ^ (j + 1) ≤ 2147483647 := vd_and31 (vd_and31 (by omega))
        refine vd_if_ne (tgt := 38) hx hb d_S_meetingOf_29 (by decide) (by omega) (fun c_29 => ?_) (fun c_29 => ?_)
        · refine lv_iload hx hb d_S_meetingOf_38 (lv_at hl 4 rfl) ?_
          exact RET _ _ _ _ _ _ d_S_meetingOf_40 (by first | (rw [ht, c_20]; exact ⟨rfl, rfl, Nat.zero_le _⟩) | (have e1 : vd_top (K 7 a &&& K 7 b) (j + 1) = j + 1 := (by rw [vd_top_s, if_pos (vd_bit1.mp c_29)]); rw [ht, e1]; exact ⟨rfl, rfl, hi⟩)) HW
        · refine lv_iinc (v := (nI j)) (lv' := [(4, .int (nI j)), (0, .ref (ad 31)), (1, .int (nI a)), (2, .int (nI b)), (3, .int (nI (K 7 a &&& K 7 b)))]) hx hb d_S_meetingOf_32 hl (k := 4) rfl (vd_dec _) (by decide) rfl (fun ls hl => ?_)
          refine lv_goto (tgt := 18) hx hb d_S_meetingOf_35 (by decide) ?_
          exact ih18 j (by omega) (by rw [ht, vd_top_s, if_neg (by rw [vd_bit0.mp c_29]; decide)]) (by omega) H locs ls HW (lv_sub hl [1, 2, 3, 4, 0] rfl)
  exact loop18 31 30 (by omega) (by rfl) (by omega) H locs ls HW (lv_sub hl [2, 3, 4, 1, 0] rfl)
set_option maxHeartbeats 1000000 in
set_option maxRecDepth 100000 in
theorem k_kfold_1 (l : Launch) (D : va_G) (ad : Nat → Nat) (K : KT) (f : Nat) (hf : f + 4 ≤ 16) (hroom : K 45 0 < 120) : vd_MI l y_S_keepFolder c_S_keepFolder 5 (some .int) 2 53 D ad [.ref (ad 31), .ref (ad 1), .int (nI f)] K (fun (ans : Int32) (K' : KT) => K' = vd_kfK K 1 f ∧ ans = (nI (vd_kfr K 1 f)) ∧ vd_kfr K 1 f ≤ 120) := by
  refine vd_entI (by decide) (Nat.le_of_ble_eq_true rfl) (lv := [(0, .ref (ad 31)), (1, .ref (ad 1)), (2, .int (nI f))]) rfl ?_
  intro p e s m args below meth cd ls Q CX hl H locs HW RET
  have hx := CX.1
  have hb := CX.2.1
  refine lv_iconst (v := (nI 0)) hx hb d_S_keepFolder_0 (by decide) ?_
  refine lv_istore_n (lv' := [(3, .int (nI 0)), (0, .ref (ad 31)), (1, .ref (ad 1)), (2, .int (nI f))]) hx hb d_S_keepFolder_1 rfl hl (by decide) rfl (fun ls hl => ?_)
  refine lv_iload_n hx hb d_S_keepFolder_2 rfl (lv_at hl 3 rfl) ?_
  refine lv_istore (lv' := [(4, .int (nI f)), (3, .int (nI 0)), (0, .ref (ad 31)), (1, .ref (ad 1)), (2, .int (nI f))]) hx hb d_S_keepFolder_3 hl (by decide) rfl (fun ls hl => ?_)
  have loop5 : ∀ (n : Nat) (i : Nat) (a : Nat) (Kl : KT), (i ≤ 4) → (Kl = vd_bks K 1 f i) → (a = vd_por K 1 f i) → (a ≤ 16383) → (4 < i + n) → ∀ (H : Heap) (locs : List Loc) (ls : Array Slot), vd_WS D ad s Kl H locs → lv_has ls 5 [(0, .ref (ad 31)), (1, .ref (ad 1)), (2, .int (nI f)), (3, .int (nI a)), (4, .int (nI (f + i)))] → W p l e (vd_R 2 53) s m args below meth cd H locs 0 0 Q (F0 m 5 ls []) := by
    intro n
    induction n with
    | zero => intro i a Kl hi hk ha hab hm; exfalso; omega
    | succ n ih5 =>
      intro i a Kl hi hk ha hab hm H locs ls HW hl
      have hs : Kl 1 = K 1 := by rw [hk, vd_bks_o _ _ _ (by decide)]
      refine lv_iload hx hb d_S_keepFolder_5 (lv_at hl 4 rfl) ?_
      refine lv_iload_n hx hb d_S_keepFolder_7 rfl (lv_at hl 2 rfl) ?_
      refine lv_iconst (v := (nI 4)) hx hb d_S_keepFolder_8 (by decide) ?_
      refine vd_iadd hx hb d_S_keepFolder_9 ?_
      refine vd_icmp_ge (tgt := 37) hx hb d_S_keepFolder_10 (by decide) (by omega) (by omega) (fun c_10 => ?_) (fun c_10 => ?_)
      · have e4 : i = 4 := by omega
        rw [e4] at hk ha
        have hl45 : Kl 45 0 = K 45 0 := by rw [hk, vd_bks_o _ _ _ (by decide)]
        refine lv_iload_n hx hb d_S_keepFolder_37 rfl (lv_at hl 3 rfl) ?_
        refine vd_if_ne (tgt := 45) hx hb d_S_keepFolder_38 (by decide) (by omega) (fun c_38 => ?_) (fun c_38 => ?_)
        · refine lv_aload_n hx hb d_S_keepFolder_45 rfl (lv_at hl 0 rfl) ?_
          refine vg_31_folders CX HW lk_S_23 d_S_keepFolder_46 ?_
          refine lv_aload_n hx hb d_S_keepFolder_49 rfl (lv_at hl 1 rfl) ?_
          refine lv_iload_n hx hb d_S_keepFolder_50 rfl (lv_at hl 2 rfl) ?_
          refine vd_callVi (As := [.ref (ad 1), .int (nI f)]) (rest := []) CX HW (k_keep_33_1 l D ad Kl f (by omega) (by omega)) mo_W_keep wi_W_keep ws_W_keep (vr_33 CX HW) ml_S_79 rfl rfl ⟨Nat.le_of_ble_eq_true rfl, Nat.le_of_ble_eq_true rfl⟩ hl.1 (Nat.le_of_ble_eq_true rfl) d_S_keepFolder_51 ⟨Nat.zero_le _, Nat.zero_le _⟩ (fun r1 K2 H locs q3 HW => ?_)
          obtain ⟨eK2, rfl, b4⟩ := q3
          have b4 : 1 ≤ vd_row Kl 10 45 1 f ∧ vd_row Kl 10 45 1 f ≤ 120 := b4
          exact RET _ _ _ _ _ _ d_S_keepFolder_54 (by first | (have z : vd_por K 1 f 4 = 0 := (by rw [← ha]; exact c_38); (refine ⟨?_, ?_, ?_⟩; (· unfold vd_kfK; rw [if_pos z]; exact hk); (· unfold vd_kfr; rw [if_pos z]); (· unfold vd_kfr; rw [if_pos z]; decide))) | (have z : ¬ vd_por K 1 f 4 = 0 := (by rw [← ha]; exact c_38); (refine ⟨?_, ?_, ?_⟩; (· unfold vd_kfK; rw [if_neg z, ← hk]; exact eK2); (· unfold vd_kfr; rw [if_neg z, ← hk]); (· unfold vd_kfr; rw [if_neg z, ← hk]; omega)))) HW
        · refine lv_iconst (v := (nI 0)) hx hb d_S_keepFolder_41 (by decide) ?_
          refine lv_goto (tgt := 54) hx hb d_S_keepFolder_42 (by decide) ?_
          exact RET _ _ _ _ _ _ d_S_keepFolder_54 (by first | (have z : vd_por K 1 f 4 = 0 := (by rw [← ha]; exact c_38); (refine ⟨?_, ?_, ?_⟩; (· unfold vd_kfK; rw [if_pos z]; exact hk); (· unfold vd_kfr; rw [if_pos z]); (· unfold vd_kfr; rw [if_pos z]; decide))) | (have z : ¬ vd_por K 1 f 4 = 0 := (by rw [← ha]; exact c_38); (refine ⟨?_, ?_, ?_⟩; (· unfold vd_kfK; rw [if_neg z, ← hk]; exact eK2); (· unfold vd_kfr; rw [if_neg z, ← hk]); (· unfold vd_kfr; rw [if_neg z, ← hk]; omega)))) HW
      · refine lv_iload_n hx hb d_S_keepFolder_13 rfl (lv_at hl 3 rfl) ?_
        refine lv_aload_n hx hb d_S_keepFolder_14 rfl (lv_at hl 1 rfl) ?_
        refine lv_iload hx hb d_S_keepFolder_15 (lv_at hl 4 rfl) ?_
        refine vd_iald CX HW (j := 1) (i := (f + i)) rfl (show f + i < 16 by omega) d_S_keepFolder_17 (fun b5 => ?_)
        have b5 : Kl 1 (f + i) ≤ 9999 := b5
        refine vd_ior hx hb d_S_keepFolder_18 ?_
        refine lv_istore_n (lv' := [(3, .int (nI (a ||| (Kl 1 (f + i))))), (0, .ref (ad 31)), (1, .ref (ad 1)), (2, .int (nI f)), (4, .int (nI (f + i)))]) hx hb d_S_keepFolder_19 rfl hl (by decide) rfl (fun ls hl => ?_)
        refine lv_aload_n hx hb d_S_keepFolder_20 rfl (lv_at hl 1 rfl) ?_
        refine vg_31_blobs CX HW lk_S_12 d_S_keepFolder_21 ?_
        refine lv_aload_n hx hb d_S_keepFolder_24 rfl (lv_at hl 2 rfl) ?_
        refine lv_iload hx hb d_S_keepFolder_25 (lv_at hl 4 rfl) ?_
        refine vd_iald CX HW (j := 1) (i := (f + i)) rfl (show f + i < 16 by omega) d_S_keepFolder_27 (fun b6 => ?_)
        have b6 : Kl 1 (f + i) ≤ 9999 := b6
        refine vd_callVv (As := [.int (nI (Kl 1 (f + i)))]) (rest := []) CX HW (k_bkeep l D ad Kl (Kl 1 (f + i)) (by omega)) mo_B_keep wi_B_keep ws_B_keep (vr_32 CX HW) ml_S_82 rfl rfl ⟨Nat.le_of_ble_eq_true rfl, Nat.le_of_ble_eq_true rfl⟩ hl.1 (Nat.le_of_ble_eq_true rfl) d_S_keepFolder_28 ⟨Nat.zero_le _, Nat.zero_le _⟩ (fun K8 H locs q9 HW => ?_)
        have eK8 := q9
        refine lv_iinc (v := (nI ((f + i) + 1))) (lv' := [(4, .int (nI ((f + i) + 1))), (3, .int (nI (a ||| (Kl 1 (f + i))))), (0, .ref (ad 31)), (1, .ref (ad 1)), (2, .int (nI f))]) hx hb d_S_keepFolder_31 hl (k := 4) rfl (vd_inc _ 1) (by decide) rfl (fun ls hl => ?_)
        refine lv_goto (tgt := 5) hx hb d_S_keepFolder_34 (by decide) ?_
        exact ih5 (i + 1) (a ||| (Kl 1 (f + i))) K8 (by omega) (by rw [eK8, hk]; show _ = vd_bk _ _; rw [hk] at hs; rw [hs]) (by rw [ha, hs]; rfl) (by exact vd_or14 hab (by omega)) (by omega) H locs ls HW (lv_sub hl [2, 3, 4, 1, 0] rfl)
  exact loop5 5 0 0 K (by omega) (by rfl) (by rfl) (by decide) (by omega) H locs ls HW (lv_sub hl [2, 3, 4, 1, 0] rfl)
set_option maxHeartbeats 1000000 in
set_option maxRecDepth 100000 in
theorem k_kfold_2 (l : Launch) (D : va_G) (ad : Nat → Nat) (K : KT) (f : Nat) (hf : f + 4 ≤ 16) (hroom : K 45 0 < 120) : vd_MI l y_S_keepFolder c_S_keepFolder 5 (some .int) 2 53 D ad [.ref (ad 31), .ref (ad 2), .int (nI f)] K (fun (ans : Int32) (K' : KT) => K' = vd_kfK K 2 f ∧ ans = (nI (vd_kfr K 2 f)) ∧ vd_kfr K 2 f ≤ 120) := by
  refine vd_entI (by decide) (Nat.le_of_ble_eq_true rfl) (lv := [(0, .ref (ad 31)), (1, .ref (ad 2)), (2, .int (nI f))]) rfl ?_
  intro p e s m args below meth cd ls Q CX hl H locs HW RET
  have hx := CX.1
  have hb := CX.2.1
  refine lv_iconst (v := (nI 0)) hx hb d_S_keepFolder_0 (by decide) ?_
  refine lv_istore_n (lv' := [(3, .int (nI 0)), (0, .ref (ad 31)), (1, .ref (ad 2)), (2, .int (nI f))]) hx hb d_S_keepFolder_1 rfl hl (by decide) rfl (fun ls hl => ?_)
  refine lv_iload_n hx hb d_S_keepFolder_2 rfl (lv_at hl 3 rfl) ?_
  refine lv_istore (lv' := [(4, .int (nI f)), (3, .int (nI 0)), (0, .ref (ad 31)), (1, .ref (ad 2)), (2, .int (nI f))]) hx hb d_S_keepFolder_3 hl (by decide) rfl (fun ls hl => ?_)
  have loop5 : ∀ (n : Nat) (i : Nat) (a : Nat) (Kl : KT), (i ≤ 4) → (Kl = vd_bks K 2 f i) → (a = vd_por K 2 f i) → (a ≤ 16383) → (4 < i + n) → ∀ (H : Heap) (locs : List Loc) (ls : Array Slot), vd_WS D ad s Kl H locs → lv_has ls 5 [(0, .ref (ad 31)), (1, .ref (ad 2)), (2, .int (nI f)), (3, .int (nI a)), (4, .int (nI (f + i)))] → W p l e (vd_R 2 53) s m args below meth cd H locs 0 0 Q (F0 m 5 ls []) := by
    intro n
    induction n with
    | zero => intro i a Kl hi hk ha hab hm; exfalso; omega
    | succ n ih5 =>
      intro i a Kl hi hk ha hab hm H locs ls HW hl
      have hs : Kl 2 = K 2 := by rw [hk, vd_bks_o _ _ _ (by decide)]
      refine lv_iload hx hb d_S_keepFolder_5 (lv_at hl 4 rfl) ?_
      refine lv_iload_n hx hb d_S_keepFolder_7 rfl (lv_at hl 2 rfl) ?_
      refine lv_iconst (v := (nI 4)) hx hb d_S_keepFolder_8 (by decide) ?_
      refine vd_iadd hx hb d_S_keepFolder_9 ?_
      refine vd_icmp_ge (tgt := 37) hx hb d_S_keepFolder_10 (by decide) (by omega) (by omega) (fun c_10 => ?_) (fun c_10 => ?_)
      · have e4 : i = 4 := by omega
        rw [e4] at hk ha
        have hl45 : Kl 45 0 = K 45 0 := by rw [hk, vd_bks_o _ _ _ (by decide)]
        refine lv_iload_n hx hb d_S_keepFolder_37 rfl (lv_at hl 3 rfl) ?_
        refine vd_if_ne (tgt := 45) hx hb d_S_keepFolder_38 (by decide) (by omega) (fun c_38 => ?_) (fun c_38 => ?_)
        · refine lv_aload_n hx hb d_S_keepFolder_45 rfl (lv_at hl 0 rfl) ?_
          refine vg_31_folders CX HW lk_S_23 d_S_keepFolder_46 ?_
          refine lv_aload_n hx hb d_S_keepFolder_49 rfl (lv_at hl 1 rfl) ?_
          refine lv_iload_n hx hb d_S_keepFolder_50 rfl (lv_at hl 2 rfl) ?_
          refine vd_callVi (As := [.ref (ad 2), .int (nI f)]) (rest := []) CX HW (k_keep_33_2 l D ad Kl f (by omega) (by omega)) mo_W_keep wi_W_keep ws_W_keep (vr_33 CX HW) ml_S_79 rfl rfl ⟨Nat.le_of_ble_eq_true rfl, Nat.le_of_ble_eq_true rfl⟩ hl.1 (Nat.le_of_ble_eq_true rfl) d_S_keepFolder_51 ⟨Nat.zero_le _, Nat.zero_le _⟩ (fun r1 K2 H locs q3 HW => ?_)
          obtain ⟨eK2, rfl, b4⟩ := q3
          have b4 : 1 ≤ vd_row Kl 10 45 2 f ∧ vd_row Kl 10 45 2 f ≤ 120 := b4
          exact RET _ _ _ _ _ _ d_S_keepFolder_54 (by first | (have z : vd_por K 2 f 4 = 0 := (by rw [← ha]; exact c_38); (refine ⟨?_, ?_, ?_⟩; (· unfold vd_kfK; rw [if_pos z]; exact hk); (· unfold vd_kfr; rw [if_pos z]); (· unfold vd_kfr; rw [if_pos z]; decide))) | (have z : ¬ vd_por K 2 f 4 = 0 := (by rw [← ha]; exact c_38); (refine ⟨?_, ?_, ?_⟩; (· unfold vd_kfK; rw [if_neg z, ← hk]; exact eK2); (· unfold vd_kfr; rw [if_neg z, ← hk]); (· unfold vd_kfr; rw [if_neg z, ← hk]; omega)))) HW
        · refine lv_iconst (v := (nI 0)) hx hb d_S_keepFolder_41 (by decide) ?_
          refine lv_goto (tgt := 54) hx hb d_S_keepFolder_42 (by decide) ?_
          exact RET _ _ _ _ _ _ d_S_keepFolder_54 (by first | (have z : vd_por K 2 f 4 = 0 := (by rw [← ha]; exact c_38); (refine ⟨?_, ?_, ?_⟩; (· unfold vd_kfK; rw [if_pos z]; exact hk); (· unfold vd_kfr; rw [if_pos z]); (· unfold vd_kfr; rw [if_pos z]; decide))) | (have z : ¬ vd_por K 2 f 4 = 0 := (by rw [← ha]; exact c_38); (refine ⟨?_, ?_, ?_⟩; (· unfold vd_kfK; rw [if_neg z, ← hk]; exact eK2); (· unfold vd_kfr; rw [if_neg z, ← hk]); (· unfold vd_kfr; rw [if_neg z, ← hk]; omega)))) HW
      · refine lv_iload_n hx hb d_S_keepFolder_13 rfl (lv_at hl 3 rfl) ?_
        refine lv_aload_n hx hb d_S_keepFolder_14 rfl (lv_at hl 1 rfl) ?_
        refine lv_iload hx hb d_S_keepFolder_15 (lv_at hl 4 rfl) ?_
        refine vd_iald CX HW (j := 2) (i := (f + i)) rfl (show f + i < 16 by omega) d_S_keepFolder_17 (fun b5 => ?_)
        have b5 : Kl 2 (f + i) ≤ 9999 := b5
        refine vd_ior hx hb d_S_keepFolder_18 ?_
        refine lv_istore_n (lv' := [(3, .int (nI (a ||| (Kl 2 (f + i))))), (0, .ref (ad 31)), (1, .ref (ad 2)), (2, .int (nI f)), (4, .int (nI (f + i)))]) hx hb d_S_keepFolder_19 rfl hl (by decide) rfl (fun ls hl => ?_)
        refine lv_aload_n hx hb d_S_keepFolder_20 rfl (lv_at hl 1 rfl) ?_
        refine vg_31_blobs CX HW lk_S_12 d_S_keepFolder_21 ?_
        refine lv_aload_n hx hb d_S_keepFolder_24 rfl (lv_at hl 2 rfl) ?_
        refine lv_iload hx hb d_S_keepFolder_25 (lv_at hl 4 rfl) ?_
        refine vd_iald CX HW (j := 2) (i := (f + i)) rfl (show f + i < 16 by omega) d_S_keepFolder_27 (fun b6 => ?_)
        have b6 : Kl 2 (f + i) ≤ 9999 := b6
        refine vd_callVv (As := [.int (nI (Kl 2 (f + i)))]) (rest := []) CX HW (k_bkeep l D ad Kl (Kl 2 (f + i)) (by omega)) mo_B_keep wi_B_keep ws_B_keep (vr_32 CX HW) ml_S_82 rfl rfl ⟨Nat.le_of_ble_eq_true rfl, Nat.le_of_ble_eq_true rfl⟩ hl.1 (Nat.le_of_ble_eq_true rfl) d_S_keepFolder_28 ⟨Nat.zero_le _, Nat.zero_le _⟩ (fun K8 H locs q9 HW => ?_)
        have eK8 := q9
        refine lv_iinc (v := (nI ((f + i) + 1))) (lv' := [(4, .int (nI ((f + i) + 1))), (3, .int (nI (a ||| (Kl 2 (f + i))))), (0, .ref (ad 31)), (1, .ref (ad 2)), (2, .int (nI f))]) hx hb d_S_keepFolder_31 hl (k := 4) rfl (vd_inc _ 1) (by decide) rfl (fun ls hl => ?_)
        refine lv_goto (tgt := 5) hx hb d_S_keepFolder_34 (by decide) ?_
        exact ih5 (i + 1) (a ||| (Kl 2 (f + i))) K8 (by omega) (by rw [eK8, hk]; show _ = vd_bk _ _; rw [hk] at hs; rw [hs]) (by rw [ha, hs]; rfl) (by exact vd_or14 hab (by omega)) (by omega) H locs ls HW (lv_sub hl [2, 3, 4, 1, 0] rfl)
  exact loop5 5 0 0 K (by omega) (by rfl) (by rfl) (by decide) (by omega) H locs ls HW (lv_sub hl [2, 3, 4, 1, 0] rfl)
set_option maxHeartbeats 1000000 in
set_option maxRecDepth 100000 in
theorem k_kroot_1 (l : Launch) (D : va_G) (ad : Nat → Nat) (K : KT)  (h45 : K 45 0 + 4 ≤ 120) (h46 : K 46 0 < 30) : vd_MI l y_S_keepRoot c_S_keepRoot 3 (some .int) 3 77 D ad [.ref (ad 31), .ref (ad 1)] K (fun (ans : Int32) (K' : KT) => K' = vd_krK K 1 ∧ ans = (nI (vd_krr K 1)) ∧ 1 ≤ vd_krr K 1 ∧ vd_krr K 1 ≤ 30) := by
  refine vd_entI (by decide) (Nat.le_of_ble_eq_true rfl) (lv := [(0, .ref (ad 31)), (1, .ref (ad 1))]) rfl ?_
  intro p e s m args below meth cd ls Q CX hl H locs HW RET
  have hx := CX.1
  have hb := CX.2.1
  refine lv_iconst (v := (nI 0)) hx hb d_S_keepRoot_0 (by decide) ?_
  refine lv_istore_n (lv' := [(2, .int (nI 0)), (0, .ref (ad 31)), (1, .ref (ad 1))]) hx hb d_S_keepRoot_1 rfl hl (by decide) rfl (fun ls hl => ?_)
  have loop2 : ∀ (n : Nat) (i : Nat) (Kl : KT), (i ≤ 4) → (Kl = vd_kf K 1 i) → (Kl 45 0 ≤ K 45 0 + i) → (Kl 46 0 = K 46 0) → (4 < i + n) → ∀ (H : Heap) (locs : List Loc) (ls : Array Slot), vd_WS D ad s Kl H locs → lv_has ls 3 [(0, .ref (ad 31)), (1, .ref (ad 1)), (2, .int (nI i))] → W p l e (vd_R 3 77) s m args below meth cd H locs 0 0 Q (F0 m 2 ls []) := by
    intro n
    induction n with
    | zero => intro i Kl hi hk hl45 hl46 hm; exfalso; omega
    | succ n ih2 =>
      intro i Kl hi hk hl45 hl46 hm H locs ls HW hl
      refine lv_iload_n hx hb d_S_keepRoot_2 rfl (lv_at hl 2 rfl) ?_
      refine lv_iconst (v := (nI 4)) hx hb d_S_keepRoot_3 (by decide) ?_
      refine vd_icmp_ge (tgt := 27) hx hb d_S_keepRoot_4 (by decide) (by omega) (by omega) (fun c_4 => ?_) (fun c_4 => ?_)
      · have e4 : i = 4 := by omega
        rw [e4] at hk
        refine lv_aload_n hx hb d_S_keepRoot_27 rfl (lv_at hl 0 rfl) ?_
        refine vg_31_roots CX HW lk_S_27 d_S_keepRoot_28 ?_
        refine lv_aload_n hx hb d_S_keepRoot_31 rfl (lv_at hl 0 rfl) ?_
        refine vg_31_folderRow CX HW lk_S_43 d_S_keepRoot_32 ?_
        refine lv_iconst (v := (nI 0)) hx hb d_S_keepRoot_35 (by decide) ?_
        refine vd_callVi (As := [.ref (ad 8), .int (nI 0)]) (rest := []) CX HW (k_keep_34_8 l D ad Kl 0 (by omega) (by omega)) mo_W_keep wi_W_keep ws_W_keep (vr_34 CX HW) ml_S_79 rfl rfl ⟨Nat.le_of_ble_eq_true rfl, Nat.le_of_ble_eq_true rfl⟩ hl.1 (Nat.le_of_ble_eq_true rfl) d_S_keepRoot_36 ⟨Nat.zero_le _, Nat.zero_le _⟩ (fun r1 K2 H locs q3 HW => ?_)
        obtain ⟨eK2, rfl, b4⟩ := q3
        have b4 : 1 ≤ vd_row Kl 12 46 8 0 ∧ vd_row Kl 12 46 8 0 ≤ 30 := b4
        exact RET _ _ _ _ _ _ d_S_keepRoot_39 (by subst_vars; (refine ⟨rfl, rfl, ?_⟩; (· assumption))) HW
      · refine lv_aload_n hx hb d_S_keepRoot_7 rfl (lv_at hl 0 rfl) ?_
        refine vg_31_folderRow CX HW lk_S_43 d_S_keepRoot_8 ?_
        refine lv_iload_n hx hb d_S_keepRoot_11 rfl (lv_at hl 2 rfl) ?_
        refine lv_aload_n hx hb d_S_keepRoot_12 rfl (lv_at hl 0 rfl) ?_
        refine lv_aload_n hx hb d_S_keepRoot_13 rfl (lv_at hl 1 rfl) ?_
        refine lv_iload_n hx hb d_S_keepRoot_14 rfl (lv_at hl 2 rfl) ?_
        refine lv_iconst (v := (nI 4)) hx hb d_S_keepRoot_15 (by decide) ?_
        refine vd_imul hx hb d_S_keepRoot_16 ?_
        refine vd_callVi (As := [.ref (ad 1), .int (nI (i * 4))]) (rest := [.int (nI i), .ref (ad 8)]) CX HW (k_kfold_1 l D ad Kl (i * 4) (by omega) (by omega)) mo_S_keepFolder wi_S_keepFolder ws_S_keepFolder (vr_31 CX HW) ml_S_75 rfl rfl ⟨Nat.le_of_ble_eq_true rfl, Nat.le_of_ble_eq_true rfl⟩ hl.1 (Nat.le_of_ble_eq_true rfl) d_S_keepRoot_17 ⟨Nat.zero_le _, Nat.zero_le _⟩ (fun r5 K6 H locs q7 HW => ?_)
        obtain ⟨eK6, rfl, b8⟩ := q7
        have b8 : vd_kfr Kl 1 (i * 4) ≤ 120 := b8
        refine vd_iast CX HW (j := 8) (i := i) (x := (vd_kfr Kl 1 (i * 4))) rfl (show i < 4 by omega) (show vd_kfr Kl 1 (i * 4) ≤ 120 by omega) d_S_keepRoot_20 (fun K9 H locs eK9 HW => ?_)
        refine lv_iinc (v := (nI (i + 1))) (lv' := [(2, .int (nI (i + 1))), (0, .ref (ad 31)), (1, .ref (ad 1))]) hx hb d_S_keepRoot_21 hl (k := 2) rfl (vd_inc _ 1) (by decide) rfl (fun ls hl => ?_)
        refine lv_goto (tgt := 2) hx hb d_S_keepRoot_24 (by decide) ?_
        exact ih2 (i + 1) K9 (by omega) (by subst_vars; rfl) (by subst_vars; rw [vd_st_o (by decide)]; exact Nat.le_trans vd_kfK_45 (by omega)) (by subst_vars; rw [vd_st_o (by decide), vd_kfK_46]; exact hl46) (by omega) H locs ls HW (lv_sub hl [1, 2, 0] rfl)
  exact loop2 5 0 K (by omega) (by rfl) (by omega) (by rfl) (by omega) H locs ls HW (lv_sub hl [1, 2, 0] rfl)
set_option maxHeartbeats 1000000 in
set_option maxRecDepth 100000 in
theorem k_make_1 (l : Launch) (D : va_G) (ad : Nat → Nat) (K : KT) (a : Nat) (b : Nat) (ha : a ≤ 30) (hb2 : b ≤ 30) (hm : K 43 0 < 30) (h45 : K 45 0 + 4 ≤ 120) (h46 : K 46 0 < 30) : vd_MI l y_S_make c_S_make 4 (some .int) 4 99 D ad [.ref (ad 31), .ref (ad 1), .int (nI a), .int (nI b)] K (fun (ans : Int32) (K' : KT) => K' = vd_mkK K 1 a b ∧ ans = (nI (K 43 0 + 1))) := by
  refine vd_entI (by decide) (Nat.le_of_ble_eq_true rfl) (lv := [(0, .ref (ad 31)), (1, .ref (ad 1)), (2, .int (nI a)), (3, .int (nI b))]) rfl ?_
  intro p e s m args below meth cd ls Q CX hl H locs HW RET
  have hx := CX.1
  have hb := CX.2.1
  refine lv_aload_n hx hb d_S_make_0 rfl (lv_at hl 0 rfl) ?_
  refine lv_dup hx hb d_S_make_1 rfl ?_
  refine vg_31_made CX HW lk_S_46 d_S_make_2 (fun b1 => ?_)
  have b1 : K 43 0 ≤ 30 := b1
  refine lv_iconst (v := (nI 1)) hx hb d_S_make_5 (by decide) ?_
  refine vd_iadd hx hb d_S_make_6 ?_
  refine vt_31_made CX HW (x := ((K 43 0) + 1)) (show (K 43 0) + 1 ≤ 30 by omega) lk_S_46 d_S_make_7 (fun K2 H locs eK2 HW => ?_)
  have f45 : K2 45 0 = K 45 0 := by subst_vars; rfl
  have f46 : K2 46 0 = K 46 0 := by subst_vars; rfl
  refine lv_aload_n hx hb d_S_make_10 rfl (lv_at hl 0 rfl) ?_
  refine vg_31_rootOf CX HW lk_S_30 d_S_make_11 ?_
  refine lv_aload_n hx hb d_S_make_14 rfl (lv_at hl 0 rfl) ?_
  refine vg_31_made CX HW lk_S_46 d_S_make_15 (fun b3 => ?_)
  have b3 : K2 43 0 ≤ 30 := b3
  have m4 : K2 43 0 = K 43 0 + 1 := by subst_vars; simp [vd_st_o, vd_st_s, vd_krK_43]
  rw [m4]
  rw [m4] at b3
  refine lv_aload_n hx hb d_S_make_18 rfl (lv_at hl 0 rfl) ?_
  refine lv_aload_n hx hb d_S_make_19 rfl (lv_at hl 1 rfl) ?_
  refine vd_callVi (As := [.ref (ad 1)]) (rest := [.int (nI (K 43 0 + 1)), .ref (ad 4)]) CX HW (k_kroot_1 l D ad K2 (by omega) (by omega)) mo_S_keepRoot wi_S_keepRoot ws_S_keepRoot (vr_31 CX HW) ml_S_71 rfl rfl ⟨Nat.le_of_ble_eq_true rfl, Nat.le_of_ble_eq_true rfl⟩ hl.1 (Nat.le_of_ble_eq_true rfl) d_S_make_20 ⟨Nat.zero_le _, Nat.zero_le _⟩ (fun r5 K6 H locs q7 HW => ?_)
  obtain ⟨eK6, rfl, b8⟩ := q7
  have b8 : 1 ≤ vd_krr K2 1 ∧ vd_krr K2 1 ≤ 30 := b8
  refine vd_iast CX HW (j := 4) (i := (K 43 0 + 1)) (x := (vd_krr K2 1)) rfl (show K 43 0 + 1 < 31 by omega) (show vd_krr K2 1 ≤ 30 by omega) d_S_make_23 (fun K9 H locs eK9 HW => ?_)
  refine lv_aload_n hx hb d_S_make_24 rfl (lv_at hl 0 rfl) ?_
  refine vg_31_firstParents CX HW lk_S_34 d_S_make_25 ?_
  refine lv_aload_n hx hb d_S_make_28 rfl (lv_at hl 0 rfl) ?_
  refine vg_31_made CX HW lk_S_46 d_S_make_29 (fun b10 => ?_)
  have b10 : K9 43 0 ≤ 30 := b10
  have m11 : K9 43 0 = K 43 0 + 1 := by subst_vars; simp [vd_st_o, vd_st_s, vd_krK_43]
  rw [m11]
  rw [m11] at b10
  refine lv_iload_n hx hb d_S_make_32 rfl (lv_at hl 2 rfl) ?_
  refine vd_iast CX HW (j := 5) (i := (K 43 0 + 1)) (x := a) rfl (show K 43 0 + 1 < 31 by omega) (show a ≤ 30 by omega) d_S_make_33 (fun K12 H locs eK12 HW => ?_)
  refine lv_aload_n hx hb d_S_make_34 rfl (lv_at hl 0 rfl) ?_
  refine vg_31_secondParents CX HW lk_S_37 d_S_make_35 ?_
  refine lv_aload_n hx hb d_S_make_38 rfl (lv_at hl 0 rfl) ?_
  refine vg_31_made CX HW lk_S_46 d_S_make_39 (fun b13 => ?_)
  have b13 : K12 43 0 ≤ 30 := b13
  have m14 : K12 43 0 = K 43 0 + 1 := by subst_vars; simp [vd_st_o, vd_st_s, vd_krK_43]
  rw [m14]
  rw [m14] at b13
  refine lv_iload_n hx hb d_S_make_42 rfl (lv_at hl 3 rfl) ?_
  refine vd_iast CX HW (j := 6) (i := (K 43 0 + 1)) (x := b) rfl (show K 43 0 + 1 < 31 by omega) (show b ≤ 30 by omega) d_S_make_43 (fun K15 H locs eK15 HW => ?_)
  refine lv_aload_n hx hb d_S_make_44 rfl (lv_at hl 0 rfl) ?_
  refine vg_31_ancestors CX HW lk_S_40 d_S_make_45 ?_
  refine lv_aload_n hx hb d_S_make_48 rfl (lv_at hl 0 rfl) ?_
  refine vg_31_made CX HW lk_S_46 d_S_make_49 (fun b16 => ?_)
  have b16 : K15 43 0 ≤ 30 := b16
  have m17 : K15 43 0 = K 43 0 + 1 := by subst_vars; simp [vd_st_o, vd_st_s, vd_krK_43]
  rw [m17]
  rw [m17] at b16
  refine lv_iconst (v := (nI 1)) hx hb d_S_make_52 (by decide) ?_
  refine lv_aload_n hx hb d_S_make_53 rfl (lv_at hl 0 rfl) ?_
  refine vg_31_made CX HW lk_S_46 d_S_make_54 (fun b18 => ?_)
  have b18 : K15 43 0 ≤ 30 := b18
  have m19 : K15 43 0 = K 43 0 + 1 := by subst_vars; simp [vd_st_o, vd_st_s, vd_krK_43]
  rw [m19]
  rw [m19] at b18
  refine vd_shl1 hx hb (by omega) d_S_make_57 ?_
  refine lv_aload_n hx hb d_S_make_58 rfl (lv_at hl 0 rfl) ?_
  refine vg_31_ancestors CX HW lk_S_40 d_S_make_59 ?_
  refine lv_iload_n hx hb d_S_make_62 rfl (lv_at hl 2 rfl) ?_
  refine vd_iald CX HW (j := 7) (i := a) rfl (show a < 31 by omega) d_S_make_63 (fun b20 => ?_)
  have b20 : K15 7 a ≤ 2147483647 := b20
  refine vd_ior hx hb d_S_make_64 ?_
  refine lv_aload_n hx hb d_S_make_65 rfl (lv_at hl 0 rfl) ?_
  refine vg_31_ancestors CX HW lk_S_40 d_S_make_66 ?_
  refine lv_iload_n hx hb d_S_make_69 rfl (lv_at hl 3 rfl) ?_
  refine vd_iald CX HW (j := 7) (i := b) rfl (show b < 31 by omega) d_S_make_70 (fun b21 => ?_)
  have b21 : K15 7 b ≤ 2147483647 := b21
  refine vd_ior hx hb d_S_make_71 ?_
  refine vd_iast CX HW (j := 7) (i := (K 43 0 + 1)) (x := (((2 ^ (K 43 0 + 1)) ||| (K15 7 a)) ||| (K15 7 b))) rfl (show K 43 0 + 1 < 31 by omega) (show ((2 ^ (K 43 0 + 1)) ||| (K15 7 a)) ||| (K15 7 b) ≤ 2147483647 by exact vd_or31 (vd_or31 (Nat.le_of_lt_succ (vd_pow31 (by omega))) (by omega)) (by omega)) d_S_make_72 (fun K22 H locs eK22 HW => ?_)
  refine lv_aload_n hx hb d_S_make_73 rfl (lv_at hl 0 rfl) ?_
  refine lv_dup hx hb d_S_make_74 rfl ?_
  refine vg_31_stored CX HW lk_S_50 d_S_make_75 (fun b23 => ?_)
  have b23 : K22 44 0 ≤ 2147483647 := b23
  refine lv_iconst (v := (nI 1)) hx hb d_S_make_78 (by decide) ?_
  refine lv_aload_n hx hb d_S_make_79 rfl (lv_at hl 0 rfl) ?_
  refine vg_31_made CX HW lk_S_46 d_S_make_80 (fun b24 => ?_)
  have b24 : K22 43 0 ≤ 30 := b24
  have m25 : K22 43 0 = K 43 0 + 1 := by subst_vars; simp [vd_st_o, vd_st_s, vd_krK_43]
  rw [m25]
  rw [m25] at b24
  refine vd_shl1 hx hb (by omega) d_S_make_83 ?_
  refine vd_ior hx hb d_S_make_84 ?_
  refine vt_31_stored CX HW (x := ((K22 44 0) ||| (2 ^ (K 43 0 + 1)))) (show (K22 44 0) ||| (2 ^ (K 43 0 + 1)) ≤ 2147483647 by exact vd_or31 (by omega) (Nat.le_of_lt_succ (vd_pow31 (by omega)))) lk_S_50 d_S_make_85 (fun K26 H locs eK26 HW => ?_)
  refine lv_aload_n hx hb d_S_make_88 rfl (lv_at hl 0 rfl) ?_
  refine vg_31_made CX HW lk_S_46 d_S_make_89 (fun b27 => ?_)
  have b27 : K26 43 0 ≤ 30 := b27
  have m28 : K26 43 0 = K 43 0 + 1 := by subst_vars; simp [vd_st_o, vd_st_s, vd_krK_43]
  rw [m28]
  rw [m28] at b27
  exact RET _ _ _ _ _ _ d_S_make_92 (by subst_vars; exact ⟨rfl, rfl⟩) HW
set_option maxHeartbeats 1000000 in
set_option maxRecDepth 100000 in
theorem k_kroot_2 (l : Launch) (D : va_G) (ad : Nat → Nat) (K : KT)  (h45 : K 45 0 + 4 ≤ 120) (h46 : K 46 0 < 30) : vd_MI l y_S_keepRoot c_S_keepRoot 3 (some .int) 3 77 D ad [.ref (ad 31), .ref (ad 2)] K (fun (ans : Int32) (K' : KT) => K' = vd_krK K 2 ∧ ans = (nI (vd_krr K 2)) ∧ 1 ≤ vd_krr K 2 ∧ vd_krr K 2 ≤ 30) := by
  refine vd_entI (by decide) (Nat.le_of_ble_eq_true rfl) (lv := [(0, .ref (ad 31)), (1, .ref (ad 2))]) rfl ?_
  intro p e s m args below meth cd ls Q CX hl H locs HW RET
  have hx := CX.1
  have hb := CX.2.1
  refine lv_iconst (v := (nI 0)) hx hb d_S_keepRoot_0 (by decide) ?_
  refine lv_istore_n (lv' := [(2, .int (nI 0)), (0, .ref (ad 31)), (1, .ref (ad 2))]) hx hb d_S_keepRoot_1 rfl hl (by decide) rfl (fun ls hl => ?_)
  have loop2 : ∀ (n : Nat) (i : Nat) (Kl : KT), (i ≤ 4) → (Kl = vd_kf K 2 i) → (Kl 45 0 ≤ K 45 0 + i) → (Kl 46 0 = K 46 0) → (4 < i + n) → ∀ (H : Heap) (locs : List Loc) (ls : Array Slot), vd_WS D ad s Kl H locs → lv_has ls 3 [(0, .ref (ad 31)), (1, .ref (ad 2)), (2, .int (nI i))] → W p l e (vd_R 3 77) s m args below meth cd H locs 0 0 Q (F0 m 2 ls []) := by
    intro n
    induction n with
    | zero => intro i Kl hi hk hl45 hl46 hm; exfalso; omega
    | succ n ih2 =>
      intro i Kl hi hk hl45 hl46 hm H locs ls HW hl
      refine lv_iload_n hx hb d_S_keepRoot_2 rfl (lv_at hl 2 rfl) ?_
      refine lv_iconst (v := (nI 4)) hx hb d_S_keepRoot_3 (by decide) ?_
      refine vd_icmp_ge (tgt := 27) hx hb d_S_keepRoot_4 (by decide) (by omega) (by omega) (fun c_4 => ?_) (fun c_4 => ?_)
      · have e4 : i = 4 := by omega
        rw [e4] at hk
        refine lv_aload_n hx hb d_S_keepRoot_27 rfl (lv_at hl 0 rfl) ?_
        refine vg_31_roots CX HW lk_S_27 d_S_keepRoot_28 ?_
        refine lv_aload_n hx hb d_S_keepRoot_31 rfl (lv_at hl 0 rfl) ?_
        refine vg_31_folderRow CX HW lk_S_43 d_S_keepRoot_32 ?_
        refine lv_iconst (v := (nI 0)) hx hb d_S_keepRoot_35 (by decide) ?_
        refine vd_callVi (As := [.ref (ad 8), .int (nI 0)]) (rest := []) CX HW (k_keep_34_8 l D ad Kl 0 (by omega) (by omega)) mo_W_keep wi_W_keep ws_W_keep (vr_34 CX HW) ml_S_79 rfl rfl ⟨Nat.le_of_ble_eq_true rfl, Nat.le_of_ble_eq_true rfl⟩ hl.1 (Nat.le_of_ble_eq_true rfl) d_S_keepRoot_36 ⟨Nat.zero_le _, Nat.zero_le _⟩ (fun r1 K2 H locs q3 HW => ?_)
        obtain ⟨eK2, rfl, b4⟩ := q3
        have b4 : 1 ≤ vd_row Kl 12 46 8 0 ∧ vd_row Kl 12 46 8 0 ≤ 30 := b4
        exact RET _ _ _ _ _ _ d_S_keepRoot_39 (by subst_vars; (refine ⟨rfl, rfl, ?_⟩; (· assumption))) HW
      · refine lv_aload_n hx hb d_S_keepRoot_7 rfl (lv_at hl 0 rfl) ?_
        refine vg_31_folderRow CX HW lk_S_43 d_S_keepRoot_8 ?_
        refine lv_iload_n hx hb d_S_keepRoot_11 rfl (lv_at hl 2 rfl) ?_
        refine lv_aload_n hx hb d_S_keepRoot_12 rfl (lv_at hl 0 rfl) ?_
        refine lv_aload_n hx hb d_S_keepRoot_13 rfl (lv_at hl 1 rfl) ?_
        refine lv_iload_n hx hb d_S_keepRoot_14 rfl (lv_at hl 2 rfl) ?_
        refine lv_iconst (v := (nI 4)) hx hb d_S_keepRoot_15 (by decide) ?_
        refine vd_imul hx hb d_S_keepRoot_16 ?_
        refine vd_callVi (As := [.ref (ad 2), .int (nI (i * 4))]) (rest := [.int (nI i), .ref (ad 8)]) CX HW (k_kfold_2 l D ad Kl (i * 4) (by omega) (by omega)) mo_S_keepFolder wi_S_keepFolder ws_S_keepFolder (vr_31 CX HW) ml_S_75 rfl rfl ⟨Nat.le_of_ble_eq_true rfl, Nat.le_of_ble_eq_true rfl⟩ hl.1 (Nat.le_of_ble_eq_true rfl) d_S_keepRoot_17 ⟨Nat.zero_le _, Nat.zero_le _⟩ (fun r5 K6 H locs q7 HW => ?_)
        obtain ⟨eK6, rfl, b8⟩ := q7
        have b8 : vd_kfr Kl 2 (i * 4) ≤ 120 := b8
        refine vd_iast CX HW (j := 8) (i := i) (x := (vd_kfr Kl 2 (i * 4))) rfl (show i < 4 by omega) (show vd_kfr Kl 2 (i * 4) ≤ 120 by omega) d_S_keepRoot_20 (fun K9 H locs eK9 HW => ?_)
        refine lv_iinc (v := (nI (i + 1))) (lv' := [(2, .int (nI (i + 1))), (0, .ref (ad 31)), (1, .ref (ad 2))]) hx hb d_S_keepRoot_21 hl (k := 2) rfl (vd_inc _ 1) (by decide) rfl (fun ls hl => ?_)
        refine lv_goto (tgt := 2) hx hb d_S_keepRoot_24 (by decide) ?_
        exact ih2 (i + 1) K9 (by omega) (by subst_vars; rfl) (by subst_vars; rw [vd_st_o (by decide)]; exact Nat.le_trans vd_kfK_45 (by omega)) (by subst_vars; rw [vd_st_o (by decide), vd_kfK_46]; exact hl46) (by omega) H locs ls HW (lv_sub hl [1, 2, 0] rfl)
  exact loop2 5 0 K (by omega) (by rfl) (by omega) (by rfl) (by omega) H locs ls HW (lv_sub hl [1, 2, 0] rfl)
set_option maxHeartbeats 1000000 in
set_option maxRecDepth 100000 in
theorem k_make_2 (l : Launch) (D : va_G) (ad : Nat → Nat) (K : KT) (a : Nat) (b : Nat) (ha : a ≤ 30) (hb2 : b ≤ 30) (hm : K 43 0 < 30) (h45 : K 45 0 + 4 ≤ 120) (h46 : K 46 0 < 30) : vd_MI l y_S_make c_S_make 4 (some .int) 4 99 D ad [.ref (ad 31), .ref (ad 2), .int (nI a), .int (nI b)] K (fun (ans : Int32) (K' : KT) => K' = vd_mkK K 2 a b ∧ ans = (nI (K 43 0 + 1))) := by
  refine vd_entI (by decide) (Nat.le_of_ble_eq_true rfl) (lv := [(0, .ref (ad 31)), (1, .ref (ad 2)), (2, .int (nI a)), (3, .int (nI b))]) rfl ?_
  intro p e s m args below meth cd ls Q CX hl H locs HW RET
  have hx := CX.1
  have hb := CX.2.1
  refine lv_aload_n hx hb d_S_make_0 rfl (lv_at hl 0 rfl) ?_
  refine lv_dup hx hb d_S_make_1 rfl ?_
  refine vg_31_made CX HW lk_S_46 d_S_make_2 (fun b1 => ?_)
  have b1 : K 43 0 ≤ 30 := b1
  refine lv_iconst (v := (nI 1)) hx hb d_S_make_5 (by decide) ?_
  refine vd_iadd hx hb d_S_make_6 ?_
  refine vt_31_made CX HW (x := ((K 43 0) + 1)) (show (K 43 0) + 1 ≤ 30 by omega) lk_S_46 d_S_make_7 (fun K2 H locs eK2 HW => ?_)
  have f45 : K2 45 0 = K 45 0 := by subst_vars; rfl
  have f46 : K2 46 0 = K 46 0 := by subst_vars; rfl
  refine lv_aload_n hx hb d_S_make_10 rfl (lv_at hl 0 rfl) ?_
  refine vg_31_rootOf CX HW lk_S_30 d_S_make_11 ?_
  refine lv_aload_n hx hb d_S_make_14 rfl (lv_at hl 0 rfl) ?_
  refine vg_31_made CX HW lk_S_46 d_S_make_15 (fun b3 => ?_)
  have b3 : K2 43 0 ≤ 30 := b3
  have m4 : K2 43 0 = K 43 0 + 1 := by subst_vars; simp [vd_st_o, vd_st_s, vd_krK_43]
  rw [m4]
  rw [m4] at b3
  refine lv_aload_n hx hb d_S_make_18 rfl (lv_at hl 0 rfl) ?_
  refine lv_aload_n hx hb d_S_make_19 rfl (lv_at hl 1 rfl) ?_
  refine vd_callVi (As := [.ref (ad 2)]) (rest := [.int (nI (K 43 0 + 1)), .ref (ad 4)]) CX HW (k_kroot_2 l D ad K2 (by omega) (by omega)) mo_S_keepRoot wi_S_keepRoot ws_S_keepRoot (vr_31 CX HW) ml_S_71 rfl rfl ⟨Nat.le_of_ble_eq_true rfl, Nat.le_of_ble_eq_true rfl⟩ hl.1 (Nat.le_of_ble_eq_true rfl) d_S_make_20 ⟨Nat.zero_le _, Nat.zero_le _⟩ (fun r5 K6 H locs q7 HW => ?_)
  obtain ⟨eK6, rfl, b8⟩ := q7
  have b8 : 1 ≤ vd_krr K2 2 ∧ vd_krr K2 2 ≤ 30 := b8
  refine vd_iast CX HW (j := 4) (i := (K 43 0 + 1)) (x := (vd_krr K2 2)) rfl (show K 43 0 + 1 < 31 by omega) (show vd_krr K2 2 ≤ 30 by omega) d_S_make_23 (fun K9 H locs eK9 HW => ?_)
  refine lv_aload_n hx hb d_S_make_24 rfl (lv_at hl 0 rfl) ?_
  refine vg_31_firstParents CX HW lk_S_34 d_S_make_25 ?_
  refine lv_aload_n hx hb d_S_make_28 rfl (lv_at hl 0 rfl) ?_
  refine vg_31_made CX HW lk_S_46 d_S_make_29 (fun b10 => ?_)
  have b10 : K9 43 0 ≤ 30 := b10
  have m11 : K9 43 0 = K 43 0 + 1 := by subst_vars; simp [vd_st_o, vd_st_s, vd_krK_43]
  rw [m11]
  rw [m11] at b10
  refine lv_iload_n hx hb d_S_make_32 rfl (lv_at hl 2 rfl) ?_
  refine vd_iast CX HW (j := 5) (i := (K 43 0 + 1)) (x := a) rfl (show K 43 0 + 1 < 31 by omega) (show a ≤ 30 by omega) d_S_make_33 (fun K12 H locs eK12 HW => ?_)
  refine lv_aload_n hx hb d_S_make_34 rfl (lv_at hl 0 rfl) ?_
  refine vg_31_secondParents CX HW lk_S_37 d_S_make_35 ?_
  refine lv_aload_n hx hb d_S_make_38 rfl (lv_at hl 0 rfl) ?_
  refine vg_31_made CX HW lk_S_46 d_S_make_39 (fun b13 => ?_)
  have b13 : K12 43 0 ≤ 30 := b13
  have m14 : K12 43 0 = K 43 0 + 1 := by subst_vars; simp [vd_st_o, vd_st_s, vd_krK_43]
  rw [m14]
  rw [m14] at b13
  refine lv_iload_n hx hb d_S_make_42 rfl (lv_at hl 3 rfl) ?_
  refine vd_iast CX HW (j := 6) (i := (K 43 0 + 1)) (x := b) rfl (show K 43 0 + 1 < 31 by omega) (show b ≤ 30 by omega) d_S_make_43 (fun K15 H locs eK15 HW => ?_)
  refine lv_aload_n hx hb d_S_make_44 rfl (lv_at hl 0 rfl) ?_
  refine vg_31_ancestors CX HW lk_S_40 d_S_make_45 ?_
  refine lv_aload_n hx hb d_S_make_48 rfl (lv_at hl 0 rfl) ?_
  refine vg_31_made CX HW lk_S_46 d_S_make_49 (fun b16 => ?_)
  have b16 : K15 43 0 ≤ 30 := b16
  have m17 : K15 43 0 = K 43 0 + 1 := by subst_vars; simp [vd_st_o, vd_st_s, vd_krK_43]
  rw [m17]
  rw [m17] at b16
  refine lv_iconst (v := (nI 1)) hx hb d_S_make_52 (by decide) ?_
  refine lv_aload_n hx hb d_S_make_53 rfl (lv_at hl 0 rfl) ?_
  refine vg_31_made CX HW lk_S_46 d_S_make_54 (fun b18 => ?_)
  have b18 : K15 43 0 ≤ 30 := b18
  have m19 : K15 43 0 = K 43 0 + 1 := by subst_vars; simp [vd_st_o, vd_st_s, vd_krK_43]
  rw [m19]
  rw [m19] at b18
  refine vd_shl1 hx hb (by omega) d_S_make_57 ?_
  refine lv_aload_n hx hb d_S_make_58 rfl (lv_at hl 0 rfl) ?_
  refine vg_31_ancestors CX HW lk_S_40 d_S_make_59 ?_
  refine lv_iload_n hx hb d_S_make_62 rfl (lv_at hl 2 rfl) ?_
  refine vd_iald CX HW (j := 7) (i := a) rfl (show a < 31 by omega) d_S_make_63 (fun b20 => ?_)
  have b20 : K15 7 a ≤ 2147483647 := b20
  refine vd_ior hx hb d_S_make_64 ?_
  refine lv_aload_n hx hb d_S_make_65 rfl (lv_at hl 0 rfl) ?_
  refine vg_31_ancestors CX HW lk_S_40 d_S_make_66 ?_
  refine lv_iload_n hx hb d_S_make_69 rfl (lv_at hl 3 rfl) ?_
  refine vd_iald CX HW (j := 7) (i := b) rfl (show b < 31 by omega) d_S_make_70 (fun b21 => ?_)
  have b21 : K15 7 b ≤ 2147483647 := b21
  refine vd_ior hx hb d_S_make_71 ?_
  refine vd_iast CX HW (j := 7) (i := (K 43 0 + 1)) (x := (((2 ^ (K 43 0 + 1)) ||| (K15 7 a)) ||| (K15 7 b))) rfl (show K 43 0 + 1 < 31 by omega) (show ((2 ^ (K 43 0 + 1)) ||| (K15 7 a)) ||| (K15 7 b) ≤ 2147483647 by exact vd_or31 (vd_or31 (Nat.le_of_lt_succ (vd_pow31 (by omega))) (by omega)) (by omega)) d_S_make_72 (fun K22 H locs eK22 HW => ?_)
  refine lv_aload_n hx hb d_S_make_73 rfl (lv_at hl 0 rfl) ?_
  refine lv_dup hx hb d_S_make_74 rfl ?_
  refine vg_31_stored CX HW lk_S_50 d_S_make_75 (fun b23 => ?_)
  have b23 : K22 44 0 ≤ 2147483647 := b23
  refine lv_iconst (v := (nI 1)) hx hb d_S_make_78 (by decide) ?_
  refine lv_aload_n hx hb d_S_make_79 rfl (lv_at hl 0 rfl) ?_
  refine vg_31_made CX HW lk_S_46 d_S_make_80 (fun b24 => ?_)
  have b24 : K22 43 0 ≤ 30 := b24
  have m25 : K22 43 0 = K 43 0 + 1 := by subst_vars; simp [vd_st_o, vd_st_s, vd_krK_43]
  rw [m25]
  rw [m25] at b24
  refine vd_shl1 hx hb (by omega) d_S_make_83 ?_
  refine vd_ior hx hb d_S_make_84 ?_
  refine vt_31_stored CX HW (x := ((K22 44 0) ||| (2 ^ (K 43 0 + 1)))) (show (K22 44 0) ||| (2 ^ (K 43 0 + 1)) ≤ 2147483647 by exact vd_or31 (by omega) (Nat.le_of_lt_succ (vd_pow31 (by omega)))) lk_S_50 d_S_make_85 (fun K26 H locs eK26 HW => ?_)
  refine lv_aload_n hx hb d_S_make_88 rfl (lv_at hl 0 rfl) ?_
  refine vg_31_made CX HW lk_S_46 d_S_make_89 (fun b27 => ?_)
  have b27 : K26 43 0 ≤ 30 := b27
  have m28 : K26 43 0 = K 43 0 + 1 := by subst_vars; simp [vd_st_o, vd_st_s, vd_krK_43]
  rw [m28]
  rw [m28] at b27
  exact RET _ _ _ _ _ _ d_S_make_92 (by subst_vars; exact ⟨rfl, rfl⟩) HW
set_option maxHeartbeats 1000000 in
set_option maxRecDepth 100000 in
theorem k_ska (l : Launch) (D : va_G) (ad : Nat → Nat) (K : KT) (r : Nat) (hr : r ≤ 30) : vd_MV l y_S_keepAgain c_S_keepAgain 5 1 22 D ad [.ref (ad 31), .int (nI r)] K (fun (K' : KT) => K' = vd_ka K r 4) := by
  refine vd_entV (by decide) (Nat.le_of_ble_eq_true rfl) (lv := [(0, .ref (ad 31)), (1, .int (nI r))]) rfl ?_
  intro p e s m args below meth cd ls Q CX hl H locs HW RET
  have hx := CX.1
  have hb := CX.2.1
  refine lv_aload_n hx hb d_S_keepAgain_0 rfl (lv_at hl 0 rfl) ?_
  refine vg_31_roots CX HW lk_S_27 d_S_keepAgain_1 ?_
  refine lv_iload_n hx hb d_S_keepAgain_4 rfl (lv_at hl 1 rfl) ?_
  refine vd_callVv (As := [.int (nI r)]) (rest := []) CX HW (k_again_34 l D ad K r (by omega)) mo_W_keepAgain wi_W_keepAgain ws_W_keepAgain (vr_34 CX HW) ml_S_95 rfl rfl ⟨Nat.le_of_ble_eq_true rfl, Nat.le_of_ble_eq_true rfl⟩ hl.1 (Nat.le_of_ble_eq_true rfl) d_S_keepAgain_5 ⟨Nat.zero_le _, Nat.zero_le _⟩ (fun K2 H locs q3 HW => ?_)
  have eK2 := q3
  refine lv_iconst (v := (nI 0)) hx hb d_S_keepAgain_8 (by decide) ?_
  refine lv_istore_n (lv' := [(2, .int (nI 0)), (0, .ref (ad 31)), (1, .int (nI r))]) hx hb d_S_keepAgain_9 rfl hl (by decide) rfl (fun ls hl => ?_)
  have loop10 : ∀ (n : Nat) (i : Nat) (Kl : KT), (i ≤ 4) → (Kl = vd_ka K r i) → (Kl 12 = K 12) → (4 < i + n) → ∀ (H : Heap) (locs : List Loc) (ls : Array Slot), vd_WS D ad s Kl H locs → lv_has ls 5 [(0, .ref (ad 31)), (1, .int (nI r)), (2, .int (nI i))] → W p l e (vd_R 1 22) s m args below meth cd H locs 0 0 Q (F0 m 10 ls []) := by
    intro n
    induction n with
    | zero => intro i Kl hi hk h12 hm; exfalso; omega
    | succ n ih10 =>
      intro i Kl hi hk h12 hm H locs ls HW hl
      refine lv_iload_n hx hb d_S_keepAgain_10 rfl (lv_at hl 2 rfl) ?_
      refine lv_iconst (v := (nI 4)) hx hb d_S_keepAgain_11 (by decide) ?_
      refine vd_icmp_ge (tgt := 71) hx hb d_S_keepAgain_12 (by decide) (by omega) (by omega) (fun c_12 => ?_) (fun c_12 => ?_)
      · exact RET _ _ _ _ _ d_S_keepAgain_71 (by rw [hk, show i = 4 by omega]) HW
      · refine lv_aload_n hx hb d_S_keepAgain_15 rfl (lv_at hl 0 rfl) ?_
        refine vg_31_roots CX HW lk_S_27 d_S_keepAgain_16 ?_
        refine lv_iload_n hx hb d_S_keepAgain_19 rfl (lv_at hl 1 rfl) ?_
        refine lv_iload_n hx hb d_S_keepAgain_20 rfl (lv_at hl 2 rfl) ?_
        refine vd_callVi (As := [.int (nI r), .int (nI i)]) (rest := []) CX HW (k_get_34 l D ad Kl r i (by omega) (by omega)) mo_W_get wi_W_get ws_W_get (vr_34 CX HW) ml_S_67 rfl rfl ⟨Nat.le_of_ble_eq_true rfl, Nat.le_of_ble_eq_true rfl⟩ hl.1 (Nat.le_of_ble_eq_true rfl) d_S_keepAgain_21 ⟨Nat.zero_le _, Nat.zero_le _⟩ (fun r4 K5 H locs q6 HW => ?_)
        obtain ⟨rfl, rfl, b7⟩ := q6
        have b7 : Kl 12 (r * 4 + i) ≤ 120 := b7
        refine lv_istore_n (lv' := [(3, .int (nI (Kl 12 (r * 4 + i)))), (0, .ref (ad 31)), (1, .int (nI r)), (2, .int (nI i))]) hx hb d_S_keepAgain_24 rfl hl (by decide) rfl (fun ls hl => ?_)
        refine lv_aload_n hx hb d_S_keepAgain_25 rfl (lv_at hl 1 rfl) ?_
        refine vg_31_folders CX HW lk_S_23 d_S_keepAgain_26 ?_
        refine lv_iload_n hx hb d_S_keepAgain_29 rfl (lv_at hl 0 rfl) ?_
        refine vd_callVv (As := [.int (nI (Kl 12 (r * 4 + i)))]) (rest := []) CX HW (k_again_33 l D ad Kl (Kl 12 (r * 4 + i)) (by omega)) mo_W_keepAgain wi_W_keepAgain ws_W_keepAgain (vr_33 CX HW) ml_S_95 rfl rfl ⟨Nat.le_of_ble_eq_true rfl, Nat.le_of_ble_eq_true rfl⟩ hl.1 (Nat.le_of_ble_eq_true rfl) d_S_keepAgain_30 ⟨Nat.zero_le _, Nat.zero_le _⟩ (fun K9 H locs q10 HW => ?_)
        have eK9 := q10
        refine lv_iconst (v := (nI 0)) hx hb d_S_keepAgain_33 (by decide) ?_
        refine lv_istore (lv' := [(4, .int (nI 0)), (3, .int (nI (Kl 12 (r * 4 + i)))), (0, .ref (ad 31)), (1, .int (nI r)), (2, .int (nI i))]) hx hb d_S_keepAgain_34 hl (by decide) rfl (fun ls hl => ?_)
        have loop36 : ∀ (n : Nat) (q : Nat) (Kq : KT), (q ≤ 4) → (Kq = vd_ka1 K9 (Kl 12 (r * 4 + i)) q) → (4 < q + n) → ∀ (H : Heap) (locs : List Loc) (ls : Array Slot), vd_WS D ad s Kq H locs → lv_has ls 5 [(0, .ref (ad 31)), (1, .int (nI r)), (2, .int (nI i)), (3, .int (nI (Kl 12 (r * 4 + i)))), (4, .int (nI q))] → W p l e (vd_R 1 22) s m args below meth cd H locs 0 0 Q (F0 m 36 ls []) := by
          intro n
          induction n with
          | zero => intro q Kq hq hk2 hm; exfalso; omega
          | succ n ih36 =>
            intro q Kq hq hk2 hm H locs ls HW hl
            refine lv_iload hx hb d_S_keepAgain_36 (lv_at hl 4 rfl) ?_
            refine lv_iconst (v := (nI 4)) hx hb d_S_keepAgain_38 (by decide) ?_
            refine vd_icmp_ge (tgt := 65) hx hb d_S_keepAgain_39 (by decide) (by omega) (by omega) (fun c_39 => ?_) (fun c_39 => ?_)
            · have e4 : q = 4 := by omega
              refine lv_iinc (v := (nI (i + 1))) (lv' := [(2, .int (nI (i + 1))), (0, .ref (ad 31)), (1, .int (nI r)), (3, .int (nI (Kl 12 (r * 4 + i)))), (4, .int (nI q))]) hx hb d_S_keepAgain_65 hl (k := 2) rfl (vd_inc _ 1) (by decide) rfl (fun ls hl => ?_)
              refine lv_goto (tgt := 10) hx hb d_S_keepAgain_68 (by decide) ?_
              exact ih10 (i + 1) Kq (by omega) (by rw [hk2, e4, eK9]; show _ = vd_ka1 (vd_st _ 11 _ 1) _ 4; rw [← hk, h12]) (by rw [hk2, vd_ka1_o _ _ (by decide), eK9, vd_st_o (by decide)]; exact h12) (by omega) H locs ls HW (lv_sub hl [1, 2, 0] rfl)
            · refine lv_aload_n hx hb d_S_keepAgain_42 rfl (lv_at hl 0 rfl) ?_
              refine vg_31_blobs CX HW lk_S_12 d_S_keepAgain_43 ?_
              refine lv_aload_n hx hb d_S_keepAgain_46 rfl (lv_at hl 0 rfl) ?_
              refine vg_31_folders CX HW lk_S_23 d_S_keepAgain_47 ?_
              refine lv_iload_n hx hb d_S_keepAgain_50 rfl (lv_at hl 3 rfl) ?_
              refine lv_iload hx hb d_S_keepAgain_51 (lv_at hl 4 rfl) ?_
              refine vd_callVi (As := [.int (nI (Kl 12 (r * 4 + i))), .int (nI q)]) (rest := [.ref (ad 32)]) CX HW (k_get_33 l D ad Kq (Kl 12 (r * 4 + i)) q (by omega) (by omega)) mo_W_get wi_W_get ws_W_get (vr_33 CX HW) ml_S_67 rfl rfl ⟨Nat.le_of_ble_eq_true rfl, Nat.le_of_ble_eq_true rfl⟩ hl.1 (Nat.le_of_ble_eq_true rfl) d_S_keepAgain_53 ⟨Nat.zero_le _, Nat.zero_le _⟩ (fun r11 K12 H locs q13 HW => ?_)
              obtain ⟨rfl, rfl, b14⟩ := q13
              have b14 : Kq 10 ((Kl 12 (r * 4 + i)) * 4 + q) ≤ 9999 := b14
              refine vd_callVv (As := [.int (nI (Kq 10 ((Kl 12 (r * 4 + i)) * 4 + q)))]) (rest := []) CX HW (k_bkeep l D ad Kq (Kq 10 ((Kl 12 (r * 4 + i)) * 4 + q)) (by omega)) mo_B_keep wi_B_keep ws_B_keep (vr_32 CX HW) ml_S_82 rfl rfl ⟨Nat.le_of_ble_eq_true rfl, Nat.le_of_ble_eq_true rfl⟩ hl.1 (Nat.le_of_ble_eq_true rfl) d_S_keepAgain_56 ⟨Nat.zero_le _, Nat.zero_le _⟩ (fun K16 H locs q17 HW => ?_)
              have eK16 := q17
              refine lv_iinc (v := (nI (q + 1))) (lv' := [(4, .int (nI (q + 1))), (0, .ref (ad 31)), (1, .int (nI r)), (2, .int (nI i)), (3, .int (nI (Kl 12 (r * 4 + i))))]) hx hb d_S_keepAgain_59 hl (k := 4) rfl (vd_inc _ 1) (by decide) rfl (fun ls hl => ?_)
              refine lv_goto (tgt := 36) hx hb d_S_keepAgain_62 (by decide) ?_
              exact ih36 (q + 1) K16 (by omega) (by rw [eK16, hk2]; show vd_bk _ _ = vd_bk _ _; rw [vd_ka1_o _ _ (by decide)]) (by omega) H locs ls HW (lv_sub hl [1, 2, 3, 4, 0] rfl)
        exact loop36 5 0 K9 (by omega) (by rfl) (by omega) H locs ls HW (lv_sub hl [2, 3, 4, 1, 0] rfl)
  exact loop10 5 0 K2 (by omega) (by subst_vars; rfl) (by subst_vars; rfl) (by omega) H locs ls HW (lv_sub hl [1, 2, 0] rfl)
set_option maxHeartbeats 1000000 in
set_option maxRecDepth 100000 in
theorem k_ko (l : Launch) (D : va_G) (ad : Nat → Nat) (K : KT) (x : Nat) (hx31 : x ≤ 2147483647) : vd_MV l y_S_keepOnly c_S_keepOnly 3 2 46 D ad [.ref (ad 31), .int (nI x)] K (fun (K' : KT) => K' = vd_koK K x) := by
  refine vd_entV (by decide) (Nat.le_of_ble_eq_true rfl) (lv := [(0, .ref (ad 31)), (1, .int (nI x))]) rfl ?_
  intro p e s m args below meth cd ls Q CX hl H locs HW RET
  have hx := CX.1
  have hb := CX.2.1
  have hm43 : K 43 0 ≤ 30 := HW.2.2.2 43 0 (by decide)
  refine lv_aload_n hx hb d_S_keepOnly_0 rfl (lv_at hl 0 rfl) ?_
  refine vg_31_blobs CX HW lk_S_12 d_S_keepOnly_1 ?_
  refine vd_callVv (As := []) (rest := []) CX HW (k_bclear l D ad K) mo_B_clear wi_B_clear ws_B_clear (vr_32 CX HW) ml_S_84 rfl rfl ⟨Nat.le_of_ble_eq_true rfl, Nat.le_of_ble_eq_true rfl⟩ hl.1 (Nat.le_of_ble_eq_true rfl) d_S_keepOnly_4 ⟨Nat.zero_le _, Nat.zero_le _⟩ (fun K2 H locs q3 HW => ?_)
  have eK2 := q3
  refine lv_aload_n hx hb d_S_keepOnly_7 rfl (lv_at hl 0 rfl) ?_
  refine vg_31_folders CX HW lk_S_23 d_S_keepOnly_8 ?_
  refine vd_callVv (As := []) (rest := []) CX HW (k_rclear_33 l D ad K2) mo_W_clear wi_W_clear ws_W_clear (vr_33 CX HW) ml_S_87 rfl rfl ⟨Nat.le_of_ble_eq_true rfl, Nat.le_of_ble_eq_true rfl⟩ hl.1 (Nat.le_of_ble_eq_true rfl) d_S_keepOnly_11 ⟨Nat.zero_le _, Nat.zero_le _⟩ (fun K5 H locs q6 HW => ?_)
  have eK5 := q6
  refine lv_aload_n hx hb d_S_keepOnly_14 rfl (lv_at hl 0 rfl) ?_
  refine vg_31_roots CX HW lk_S_27 d_S_keepOnly_15 ?_
  refine vd_callVv (As := []) (rest := []) CX HW (k_rclear_34 l D ad K5) mo_W_clear wi_W_clear ws_W_clear (vr_34 CX HW) ml_S_87 rfl rfl ⟨Nat.le_of_ble_eq_true rfl, Nat.le_of_ble_eq_true rfl⟩ hl.1 (Nat.le_of_ble_eq_true rfl) d_S_keepOnly_18 ⟨Nat.zero_le _, Nat.zero_le _⟩ (fun K8 H locs q9 HW => ?_)
  have eK8 := q9
  refine lv_aload_n hx hb d_S_keepOnly_21 rfl (lv_at hl 0 rfl) ?_
  refine lv_iload_n hx hb d_S_keepOnly_22 rfl (lv_at hl 1 rfl) ?_
  refine vt_31_stored CX HW (x := x) (show x ≤ 2147483647 by omega) lk_S_50 d_S_keepOnly_23 (fun K10 H locs eK10 HW => ?_)
  refine lv_iconst (v := (nI 1)) hx hb d_S_keepOnly_26 (by decide) ?_
  refine lv_istore_n (lv' := [(2, .int (nI 1)), (0, .ref (ad 31)), (1, .int (nI x))]) hx hb d_S_keepOnly_27 rfl hl (by decide) rfl (fun ls hl => ?_)
  have loop28 : ∀ (n : Nat) (i : Nat) (Kl : KT), (i ≤ K 43 0) → (Kl = vd_ko K10 i) → (Kl 43 0 = K 43 0) → (Kl 44 = K10 44) → (Kl 4 = K10 4) → (30 < i + n) → ∀ (H : Heap) (locs : List Loc) (ls : Array Slot), vd_WS D ad s Kl H locs → lv_has ls 3 [(0, .ref (ad 31)), (1, .int (nI x)), (2, .int (nI (i + 1)))] → W p l e (vd_R 2 46) s m args below meth cd H locs 0 0 Q (F0 m 28 ls []) := by
    intro n
    induction n with
    | zero => intro i Kl hi hk h43 h44 h4 hm; exfalso; omega
    | succ n ih28 =>
      intro i Kl hi hk h43 h44 h4 hm H locs ls HW hl
      have hmd : Kl 43 0 ≤ 30 := HW.2.2.2 43 0 (by decide)
      refine lv_iload_n hx hb d_S_keepOnly_28 rfl (lv_at hl 2 rfl) ?_
      refine lv_aload_n hx hb d_S_keepOnly_29 rfl (lv_at hl 0 rfl) ?_
      refine vg_31_made CX HW lk_S_46 d_S_keepOnly_30 (fun b11 => ?_)
      have b11 : Kl 43 0 ≤ 30 := b11
      refine vd_icmp_gt (tgt := 60) hx hb d_S_keepOnly_33 (by decide) (by omega) (by omega) (fun c_33 => ?_) (fun c_33 => ?_)
      · exact RET _ _ _ _ _ d_S_keepOnly_60 (by rw [hk, show i = K 43 0 by omega]; subst_vars; rfl) HW
      · refine lv_aload_n hx hb d_S_keepOnly_36 rfl (lv_at hl 0 rfl) ?_
        refine lv_iload_n hx hb d_S_keepOnly_37 rfl (lv_at hl 2 rfl) ?_
        refine vd_callVi (As := [.int (nI (i + 1))]) (rest := []) CX HW (k_holds l D ad Kl (nI (i + 1))) mo_S_holds wi_S_holds ws_S_holds (vr_31 CX HW) ml_S_88 rfl rfl ⟨Nat.le_of_ble_eq_true rfl, Nat.le_of_ble_eq_true rfl⟩ hl.1 (Nat.le_of_ble_eq_true rfl) d_S_keepOnly_38 ⟨Nat.zero_le _, Nat.zero_le _⟩ (fun r12 K13 H locs q14 HW => ?_)
        obtain ⟨rfl, rfl⟩ := q14
        refine vd_ifb_eq (tgt := 54) hx hb d_S_keepOnly_41 (by decide) (fun c_41 => ?_) (fun c_41 => ?_)
        · have hb4 : (Kl 44 0).testBit (i + 1) = false := vd_hol_nb c_41 (by omega) (by omega)
          refine lv_iinc (v := (nI ((i + 1) + 1))) (lv' := [(2, .int (nI ((i + 1) + 1))), (0, .ref (ad 31)), (1, .int (nI x))]) hx hb d_S_keepOnly_54 hl (k := 2) rfl (vd_inc _ 1) (by decide) rfl (fun ls hl => ?_)
          refine lv_goto (tgt := 28) hx hb d_S_keepOnly_57 (by decide) ?_
          exact ih28 (i + 1) Kl (by omega) (by rw [hk]; rw [vd_ko_s, if_neg (by rw [← h44]; rw [hb4]; decide)]) (by exact h43) (by exact h44) (by exact h4) (by omega) H locs ls HW (lv_sub hl [1, 2, 0] rfl)
        · have hb4 : (Kl 44 0).testBit (i + 1) = true := vd_hol_b c_41 (by omega) (by omega)
          refine lv_aload_n hx hb d_S_keepOnly_44 rfl (lv_at hl 0 rfl) ?_
          refine lv_aload_n hx hb d_S_keepOnly_45 rfl (lv_at hl 0 rfl) ?_
          refine vg_31_rootOf CX HW lk_S_30 d_S_keepOnly_46 ?_
          refine lv_iload_n hx hb d_S_keepOnly_49 rfl (lv_at hl 2 rfl) ?_
          refine vd_iald CX HW (j := 4) (i := (i + 1)) rfl (show i + 1 < 31 by omega) d_S_keepOnly_50 (fun b15 => ?_)
          have b15 : Kl 4 (i + 1) ≤ 30 := b15
          refine vd_callVv (As := [.int (nI (Kl 4 (i + 1)))]) (rest := []) CX HW (k_ska l D ad Kl (Kl 4 (i + 1)) (by omega)) mo_S_keepAgain wi_S_keepAgain ws_S_keepAgain (vr_31 CX HW) ml_S_92 rfl rfl ⟨Nat.le_of_ble_eq_true rfl, Nat.le_of_ble_eq_true rfl⟩ hl.1 (Nat.le_of_ble_eq_true rfl) d_S_keepOnly_51 ⟨Nat.zero_le _, Nat.zero_le _⟩ (fun K17 H locs q18 HW => ?_)
          have eK17 := q18
          refine lv_iinc (v := (nI ((i + 1) + 1))) (lv' := [(2, .int (nI ((i + 1) + 1))), (0, .ref (ad 31)), (1, .int (nI x))]) hx hb d_S_keepOnly_54 hl (k := 2) rfl (vd_inc _ 1) (by decide) rfl (fun ls hl => ?_)
          refine lv_goto (tgt := 28) hx hb d_S_keepOnly_57 (by decide) ?_
          exact ih28 (i + 1) K17 (by omega) (by rw [eK17, hk]; rw [vd_ko_s, if_pos (by rw [← h44]; exact hb4), ← h4, hk]) (by rw [eK17, vd_ka_o _ _ (by decide) (by decide) (by decide)]; exact h43) (by rw [eK17, vd_ka_o _ _ (by decide) (by decide) (by decide)]; exact h44) (by rw [eK17, vd_ka_o _ _ (by decide) (by decide) (by decide)]; exact h4) (by omega) H locs ls HW (lv_sub hl [1, 2, 0] rfl)
  exact loop28 31 0 K10 (by omega) (by rfl) (by subst_vars; rfl) (by rfl) (by rfl) (by omega) H locs ls HW (lv_sub hl [1, 2, 0] rfl)
set_option maxHeartbeats 1000000 in
set_option maxRecDepth 100000 in
theorem k_commits (l : Launch) (D : va_G) (ad : Nat → Nat) (K : KT)   : vd_MI l y_S_commits c_S_commits 1 (some .int) 1 20 D ad [.ref (ad 31)] K (fun (ans : Int32) (K' : KT) => K = K' ∧ ans = (nI (vd_pc 32 (K 44 0))) ∧ vd_pc 32 (K 44 0) ≤ 32) := by
  refine vd_entI (by decide) (Nat.le_of_ble_eq_true rfl) (lv := [(0, .ref (ad 31))]) rfl ?_
  intro p e s m args below meth cd ls Q CX hl H locs HW RET
  have hx := CX.1
  have hb := CX.2.1
  refine lv_aload_n hx hb d_S_commits_0 rfl (lv_at hl 0 rfl) ?_
  refine vg_31_stored CX HW lk_S_50 d_S_commits_1 (fun b1 => ?_)
  have b1 : K 44 0 ≤ 2147483647 := b1
  refine vd_callSi (As := [.int (nI (K 44 0))]) (rest := []) CX HW (k_ibc l D ad K (K 44 0) (by omega)) mo_I_bitCount wt_I_bitCount ml_S_53 rfl rfl ⟨Nat.le_of_ble_eq_true rfl, Nat.le_of_ble_eq_true rfl⟩ hl.1 (Nat.le_of_ble_eq_true rfl) d_S_commits_4 ⟨Nat.zero_le _, Nat.zero_le _⟩ (fun r2 K3 H locs q4 HW => ?_)
  obtain ⟨rfl, rfl, b5⟩ := q4
  have b5 : vd_pc 32 (K 44 0) ≤ 32 := b5
  exact RET _ _ _ _ _ _ d_S_commits_7 (by (refine ⟨rfl, rfl, ?_⟩; (· assumption))) HW
set_option maxHeartbeats 1000000 in
set_option maxRecDepth 100000 in
theorem k_size (l : Launch) (D : va_G) (ad : Nat → Nat) (K : KT)   : vd_MI l y_S_size c_S_size 1 (some .int) 2 43 D ad [.ref (ad 31)] K (fun (ans : Int32) (K' : KT) => K = K' ∧ ans = (nI (vd_size K)) ∧ vd_size K ≤ 11000) := by
  refine vd_entI (by decide) (Nat.le_of_ble_eq_true rfl) (lv := [(0, .ref (ad 31))]) rfl ?_
  intro p e s m args below meth cd ls Q CX hl H locs HW RET
  have hx := CX.1
  have hb := CX.2.1
  refine lv_aload_n hx hb d_S_size_0 rfl (lv_at hl 0 rfl) ?_
  refine vg_31_blobs CX HW lk_S_12 d_S_size_1 ?_
  refine vd_callVi (As := []) (rest := []) CX HW (k_bsize l D ad K) mo_B_size wi_B_size ws_B_size (vr_32 CX HW) ml_S_59 rfl rfl ⟨Nat.le_of_ble_eq_true rfl, Nat.le_of_ble_eq_true rfl⟩ hl.1 (Nat.le_of_ble_eq_true rfl) d_S_size_4 ⟨Nat.zero_le _, Nat.zero_le _⟩ (fun r1 K2 H locs q3 HW => ?_)
  obtain ⟨rfl, rfl, b4⟩ := q3
  have b4 : vd_bsz K 157 ≤ 10048 := b4
  refine lv_aload_n hx hb d_S_size_7 rfl (lv_at hl 0 rfl) ?_
  refine vg_31_folders CX HW lk_S_23 d_S_size_8 ?_
  refine vd_callVi (As := []) (rest := [.int (nI (vd_bsz K 157))]) CX HW (k_rsize_33 l D ad K) mo_W_size wi_W_size ws_W_size (vr_33 CX HW) ml_S_63 rfl rfl ⟨Nat.le_of_ble_eq_true rfl, Nat.le_of_ble_eq_true rfl⟩ hl.1 (Nat.le_of_ble_eq_true rfl) d_S_size_11 ⟨Nat.zero_le _, Nat.zero_le _⟩ (fun r5 K6 H locs q7 HW => ?_)
  obtain ⟨rfl, rfl, b8⟩ := q7
  have b8 : vd_rsz K 11 45 ≤ 120 := b8
  refine vd_iadd hx hb d_S_size_14 ?_
  refine lv_aload_n hx hb d_S_size_15 rfl (lv_at hl 0 rfl) ?_
  refine vg_31_roots CX HW lk_S_27 d_S_size_16 ?_
  refine vd_callVi (As := []) (rest := [.int (nI ((vd_bsz K 157) + (vd_rsz K 11 45)))]) CX HW (k_rsize_34 l D ad K) mo_W_size wi_W_size ws_W_size (vr_34 CX HW) ml_S_63 rfl rfl ⟨Nat.le_of_ble_eq_true rfl, Nat.le_of_ble_eq_true rfl⟩ hl.1 (Nat.le_of_ble_eq_true rfl) d_S_size_19 ⟨Nat.zero_le _, Nat.zero_le _⟩ (fun r9 K10 H locs q11 HW => ?_)
  obtain ⟨rfl, rfl, b12⟩ := q11
  have b12 : vd_rsz K 13 46 ≤ 30 := b12
  refine vd_iadd hx hb d_S_size_22 ?_
  refine lv_aload_n hx hb d_S_size_23 rfl (lv_at hl 0 rfl) ?_
  refine vd_callVi (As := []) (rest := [.int (nI (((vd_bsz K 157) + (vd_rsz K 11 45)) + (vd_rsz K 13 46)))]) CX HW (k_commits l D ad K) mo_S_commits wi_S_commits ws_S_commits (vr_31 CX HW) ml_S_64 rfl rfl ⟨Nat.le_of_ble_eq_true rfl, Nat.le_of_ble_eq_true rfl⟩ hl.1 (Nat.le_of_ble_eq_true rfl) d_S_size_24 ⟨Nat.zero_le _, Nat.zero_le _⟩ (fun r13 K14 H locs q15 HW => ?_)
  obtain ⟨rfl, rfl, b16⟩ := q15
  have b16 : vd_pc 32 (K 44 0) ≤ 32 := b16
  refine vd_iadd hx hb d_S_size_27 ?_
  exact RET _ _ _ _ _ _ d_S_size_28 (by (refine ⟨rfl, rfl, ?_⟩; (· unfold vd_size; omega))) HW
