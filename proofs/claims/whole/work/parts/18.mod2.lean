set_option maxHeartbeats 1000000 in
set_option maxRecDepth 100000 in
theorem j_clashes (l : Launch) (D : va_G) (ad : Nat → Nat) (K : KT)   : vd_MI l y_M_clashes c_M_clashes 3 (some .int) 0 0 D ad [.ref (ad 35)] K (fun (ans : Int32) (K' : KT) => K = K' ∧ ans = (nI (vd_clM K)) ∧ vd_clM K ≤ 16) := by
  refine vd_entI (by decide) (Nat.le_of_ble_eq_true rfl) (lv := [(0, .ref (ad 35))]) rfl ?_
  intro p e s m args below meth cd ls Q CX hl H locs HW RET
  have hx := CX.1
  have hb := CX.2.1
  refine lv_iconst (v := (nI 0)) hx hb d_M_clashes_0 (by decide) ?_
  refine lv_istore_n (lv' := [(1, .int (nI 0)), (0, .ref (ad 35))]) hx hb d_M_clashes_1 rfl hl (by decide) rfl (fun ls hl => ?_)
  refine lv_iconst (v := (nI 0)) hx hb d_M_clashes_2 (by decide) ?_
  refine lv_istore_n (lv' := [(2, .int (nI 0)), (1, .int (nI 0)), (0, .ref (ad 35))]) hx hb d_M_clashes_3 rfl hl (by decide) rfl (fun ls hl => ?_)
  have loop4 : ∀ (n : Nat) (a : Nat) (i : Nat), (a = vd_cn (fun f => K 19 f != 0) i) → (i ≤ 16) → (16 < i + n) → ∀ (H : Heap) (locs : List Loc) (ls : Array Slot), vd_WS D ad s K H locs → lv_has ls 3 [(0, .ref (ad 35)), (1, .int (nI a)), (2, .int (nI i))] → W p l e (vd_R 0 0) s m args below meth cd H locs 0 0 Q (F0 m 4 ls []) := by
    intro n
    induction n with
    | zero => intro a i ha hi hm; exfalso; omega
    | succ n ih4 =>
      intro a i ha hi hm H locs ls HW hl
      refine lv_iload_n hx hb d_M_clashes_4 rfl (lv_at hl 2 rfl) ?_
      refine lv_bipush (v := (nI 16)) hx hb d_M_clashes_5 (by decide) ?_
      refine vd_icmp_ge (tgt := 28) hx hb d_M_clashes_7 (by decide) (by omega) (by omega) (fun c_7 => ?_) (fun c_7 => ?_)
      · refine lv_iload_n hx hb d_M_clashes_28 rfl (lv_at hl 1 rfl) ?_
        exact RET _ _ _ _ _ _ d_M_clashes_29 (by have e1 : i = 16 := (by omega); subst e1; (refine ⟨rfl, ?_, vd_cn_le _ _⟩; (· rw [ha]; rfl))) HW
      · refine lv_aload_n hx hb d_M_clashes_10 rfl (lv_at hl 0 rfl) ?_
        refine vg_35_clashing CX HW lk_M_26 d_M_clashes_11 ?_
        refine lv_iload_n hx hb d_M_clashes_14 rfl (lv_at hl 2 rfl) ?_
        refine vd_zald CX HW (j := 19) (i := i) rfl (show i < 16 by omega) d_M_clashes_15 (fun b1 => ?_)
        have b1 : K 19 i ≤ 1 := b1
        refine vd_if_eq (tgt := 22) hx hb d_M_clashes_16 (by decide) (by omega) (fun c_16 => ?_) (fun c_16 => ?_)
        · refine lv_iinc (v := (nI (i + 1))) (lv' := [(2, .int (nI (i + 1))), (0, .ref (ad 35)), (1, .int (nI a))]) hx hb d_M_clashes_22 hl (k := 2) rfl (vd_inc _ 1) (by decide) rfl (fun ls hl => ?_)
          refine lv_goto (tgt := 4) hx hb d_M_clashes_25 (by decide) ?_
          exact ih4 a (i + 1) (by first | exact vd_cn_t ha (by simpa using c_16) | exact vd_cn_f ha (by simpa using c_16)) (by omega) (by omega) H locs ls HW (lv_sub hl [1, 2, 0] rfl)
        · refine lv_iinc (v := (nI (a + 1))) (lv' := [(1, .int (nI (a + 1))), (0, .ref (ad 35)), (2, .int (nI i))]) hx hb d_M_clashes_19 hl (k := 1) rfl (vd_inc _ 1) (by decide) rfl (fun ls hl => ?_)
          refine lv_iinc (v := (nI (i + 1))) (lv' := [(2, .int (nI (i + 1))), (1, .int (nI (a + 1))), (0, .ref (ad 35))]) hx hb d_M_clashes_22 hl (k := 2) rfl (vd_inc _ 1) (by decide) rfl (fun ls hl => ?_)
          refine lv_goto (tgt := 4) hx hb d_M_clashes_25 (by decide) ?_
          exact ih4 (a + 1) (i + 1) (by first | exact vd_cn_t ha (by simpa using c_16) | exact vd_cn_f ha (by simpa using c_16)) (by omega) (by omega) H locs ls HW (lv_sub hl [2, 1, 0] rfl)
  exact loop4 17 0 0 (by rfl) (by omega) (by omega) H locs ls HW (lv_sub hl [2, 1, 0] rfl)
set_option maxHeartbeats 1000000 in
set_option maxRecDepth 100000 in
theorem j_changed (l : Launch) (D : va_G) (ad : Nat → Nat) (K : KT)   : vd_MI l y_M_changed c_M_changed 3 (some .int) 0 0 D ad [.ref (ad 35)] K (fun (ans : Int32) (K' : KT) => K = K' ∧ ans = (nI (vd_chg K)) ∧ vd_chg K ≤ 16) := by
  refine vd_entI (by decide) (Nat.le_of_ble_eq_true rfl) (lv := [(0, .ref (ad 35))]) rfl ?_
  intro p e s m args below meth cd ls Q CX hl H locs HW RET
  have hx := CX.1
  have hb := CX.2.1
  refine lv_iconst (v := (nI 0)) hx hb d_M_changed_0 (by decide) ?_
  refine lv_istore_n (lv' := [(1, .int (nI 0)), (0, .ref (ad 35))]) hx hb d_M_changed_1 rfl hl (by decide) rfl (fun ls hl => ?_)
  refine lv_iconst (v := (nI 0)) hx hb d_M_changed_2 (by decide) ?_
  refine lv_istore_n (lv' := [(2, .int (nI 0)), (1, .int (nI 0)), (0, .ref (ad 35))]) hx hb d_M_changed_3 rfl hl (by decide) rfl (fun ls hl => ?_)
  have loop4 : ∀ (n : Nat) (a : Nat) (i : Nat), (a = vd_cn (fun f => K 14 (496 + f) != K 14 (512 + f)) i) → (i ≤ 16) → (16 < i + n) → ∀ (H : Heap) (locs : List Loc) (ls : Array Slot), vd_WS D ad s K H locs → lv_has ls 3 [(0, .ref (ad 35)), (1, .int (nI a)), (2, .int (nI i))] → W p l e (vd_R 0 0) s m args below meth cd H locs 0 0 Q (F0 m 4 ls []) := by
    intro n
    induction n with
    | zero => intro a i ha hi hm; exfalso; omega
    | succ n ih4 =>
      intro a i ha hi hm H locs ls HW hl
      refine lv_iload_n hx hb d_M_changed_4 rfl (lv_at hl 2 rfl) ?_
      refine lv_bipush (v := (nI 16)) hx hb d_M_changed_5 (by decide) ?_
      refine vd_icmp_ge (tgt := 42) hx hb d_M_changed_7 (by decide) (by omega) (by omega) (fun c_7 => ?_) (fun c_7 => ?_)
      · refine lv_iload_n hx hb d_M_changed_42 rfl (lv_at hl 1 rfl) ?_
        exact RET _ _ _ _ _ _ d_M_changed_43 (by have e1 : i = 16 := (by omega); subst e1; (refine ⟨rfl, ?_, vd_cn_le _ _⟩; (· rw [ha]; rfl))) HW
      · refine lv_aload_n hx hb d_M_changed_10 rfl (lv_at hl 0 rfl) ?_
        refine vg_35_content CX HW lk_M_7 d_M_changed_11 ?_
        refine lv_sipush (v := (nI 496)) hx hb d_M_changed_14 (by decide) ?_
        refine lv_iload_n hx hb d_M_changed_17 rfl (lv_at hl 2 rfl) ?_
        refine vd_iadd hx hb d_M_changed_18 ?_
        refine vd_iald CX HW (j := 14) (i := (496 + i)) rfl (show 496 + i < 544 by omega) d_M_changed_19 (fun b1 => ?_)
        have b1 : K 14 (496 + i) ≤ 9999 := b1
        refine lv_aload_n hx hb d_M_changed_20 rfl (lv_at hl 0 rfl) ?_
        refine vg_35_content CX HW lk_M_7 d_M_changed_21 ?_
        refine lv_sipush (v := (nI 512)) hx hb d_M_changed_24 (by decide) ?_
        refine lv_iload_n hx hb d_M_changed_27 rfl (lv_at hl 2 rfl) ?_
        refine vd_iadd hx hb d_M_changed_28 ?_
        refine vd_iald CX HW (j := 14) (i := (512 + i)) rfl (show 512 + i < 544 by omega) d_M_changed_29 (fun b2 => ?_)
        have b2 : K 14 (512 + i) ≤ 9999 := b2
        refine vd_icmp_eq (tgt := 36) hx hb d_M_changed_30 (by decide) (by omega) (by omega) (fun c_30 => ?_) (fun c_30 => ?_)
        · refine lv_iinc (v := (nI (i + 1))) (lv' := [(2, .int (nI (i + 1))), (0, .ref (ad 35)), (1, .int (nI a))]) hx hb d_M_changed_36 hl (k := 2) rfl (vd_inc _ 1) (by decide) rfl (fun ls hl => ?_)
          refine lv_goto (tgt := 4) hx hb d_M_changed_39 (by decide) ?_
          exact ih4 a (i + 1) (by first | exact vd_cn_t ha (by simpa using c_30) | exact vd_cn_f ha (by simpa using c_30)) (by omega) (by omega) H locs ls HW (lv_sub hl [1, 2, 0] rfl)
        · refine lv_iinc (v := (nI (a + 1))) (lv' := [(1, .int (nI (a + 1))), (0, .ref (ad 35)), (2, .int (nI i))]) hx hb d_M_changed_33 hl (k := 1) rfl (vd_inc _ 1) (by decide) rfl (fun ls hl => ?_)
          refine lv_iinc (v := (nI (i + 1))) (lv' := [(2, .int (nI (i + 1))), (1, .int (nI (a + 1))), (0, .ref (ad 35))]) hx hb d_M_changed_36 hl (k := 2) rfl (vd_inc _ 1) (by decide) rfl (fun ls hl => ?_)
          refine lv_goto (tgt := 4) hx hb d_M_changed_39 (by decide) ?_
          exact ih4 (a + 1) (i + 1) (by first | exact vd_cn_t ha (by simpa using c_30) | exact vd_cn_f ha (by simpa using c_30)) (by omega) (by omega) H locs ls HW (lv_sub hl [2, 1, 0] rfl)
  exact loop4 17 0 0 (by rfl) (by omega) (by omega) H locs ls HW (lv_sub hl [2, 1, 0] rfl)
set_option maxHeartbeats 1000000 in
set_option maxRecDepth 100000 in
theorem j_commit (l : Launch) (D : va_G) (ad : Nat → Nat) (K : KT)   : vd_MI l y_M_commit c_M_commit 3 (some .int) 2 47 D ad [.ref (ad 35)] K (fun (ans : Int32) (K' : KT) => K' = vd_cmKM K ∧ ans = (vd_cmRM K)) := by
  refine vd_entI (by decide) (Nat.le_of_ble_eq_true rfl) (lv := [(0, .ref (ad 35))]) rfl ?_
  intro p e s m args below meth cd ls Q CX hl H locs HW RET
  have hx := CX.1
  have hb := CX.2.1
  refine lv_aload_n hx hb d_M_commit_0 rfl (lv_at hl 0 rfl) ?_
  refine vd_callVi (As := []) (rest := []) CX HW (j_clashes l D ad K) mo_M_clashes wi_M_clashes ws_M_clashes (vr_35 CX HW) ml_M_61 rfl rfl ⟨Nat.le_of_ble_eq_true rfl, Nat.le_of_ble_eq_true rfl⟩ hl.1 (Nat.le_of_ble_eq_true rfl) d_M_commit_1 ⟨Nat.zero_le _, Nat.zero_le _⟩ (fun r1 K2 H locs q3 HW => ?_)
  obtain ⟨rfl, rfl, b4⟩ := q3
  have b4 : vd_clM K ≤ 16 := b4
  refine vd_if_le (tgt := 10) hx hb d_M_commit_4 (by decide) (by omega) (fun c_4 => ?_) (fun c_4 => ?_)
  · refine lv_aload_n hx hb d_M_commit_10 rfl (lv_at hl 0 rfl) ?_
    refine vg_35_merging CX HW lk_M_64 d_M_commit_11 (fun b5 => ?_)
    have b5 : K 49 0 ≤ 30 := b5
    refine vd_if_ne (tgt := 33) hx hb d_M_commit_14 (by decide) (by omega) (fun c_14 => ?_) (fun c_14 => ?_)
    · refine lv_aload_n hx hb d_M_commit_33 rfl (lv_at hl 0 rfl) ?_
      refine vg_35_made CX HW lk_M_58 d_M_commit_34 (fun b6 => ?_)
      have b6 : K 47 0 ≤ 30 := b6
      refine lv_bipush (v := (nI 30)) hx hb d_M_commit_37 (by decide) ?_
      refine vd_icmp_ne (tgt := 45) hx hb d_M_commit_39 (by decide) (by omega) (by omega) (fun c_39 => ?_) (fun c_39 => ?_)
      · refine lv_aload_n hx hb d_M_commit_45 rfl (lv_at hl 0 rfl) ?_
        refine vd_callVi (As := []) (rest := []) CX HW (j_here l D ad K) mo_M_here wi_M_here ws_M_here (vr_35 CX HW) ml_M_54 rfl rfl ⟨Nat.le_of_ble_eq_true rfl, Nat.le_of_ble_eq_true rfl⟩ hl.1 (Nat.le_of_ble_eq_true rfl) d_M_commit_46 ⟨Nat.zero_le _, Nat.zero_le _⟩ (fun r7 K8 H locs q9 HW => ?_)
        obtain ⟨rfl, rfl, b10⟩ := q9
        have b10 : vd_hereM K ≤ 30 := b10
        refine vd_if_le (tgt := 59) hx hb d_M_commit_49 (by decide) (by omega) (fun c_49 => ?_) (fun c_49 => ?_)
        · refine lv_aload_n hx hb d_M_commit_59 rfl (lv_at hl 0 rfl) ?_
          refine vg_35_merging CX HW lk_M_64 d_M_commit_60 (fun b11 => ?_)
          have b11 : K 49 0 ≤ 30 := b11
          refine lv_istore_n (lv' := [(1, .int (nI (K 49 0))), (0, .ref (ad 35))]) hx hb d_M_commit_63 rfl hl (by decide) rfl (fun ls hl => ?_)
          refine lv_aload_n hx hb d_M_commit_64 rfl (lv_at hl 1 rfl) ?_
          refine vd_callVi (As := []) (rest := []) CX HW (j_here l D ad K) mo_M_here wi_M_here ws_M_here (vr_35 CX HW) ml_M_54 rfl rfl ⟨Nat.le_of_ble_eq_true rfl, Nat.le_of_ble_eq_true rfl⟩ hl.1 (Nat.le_of_ble_eq_true rfl) d_M_commit_65 ⟨Nat.zero_le _, Nat.zero_le _⟩ (fun r12 K13 H locs q14 HW => ?_)
          obtain ⟨rfl, rfl, b15⟩ := q14
          have b15 : vd_hereM K ≤ 30 := b15
          refine vd_if_le (tgt := 78) hx hb d_M_commit_68 (by decide) (by omega) (fun c_68 => ?_) (fun c_68 => ?_)
          · refine lv_iconst (v := (nI 0)) hx hb d_M_commit_78 (by decide) ?_
            refine lv_istore_n (lv' := [(2, .int (nI 0)), (1, .int (nI (K 49 0))), (0, .ref (ad 35))]) hx hb d_M_commit_79 rfl hl (by decide) rfl (fun ls hl => ?_)
            refine lv_aload_n hx hb d_M_commit_80 rfl (lv_at hl 2 rfl) ?_
            refine lv_iconst (v := (nI 0)) hx hb d_M_commit_81 (by decide) ?_
            refine vt_35_merging CX HW (x := 0) (show 0 ≤ 30 by omega) lk_M_64 d_M_commit_82 (fun K16 H locs eK16 HW => ?_)
            have f47 : K16 47 0 = K 47 0 := by subst_vars; rfl
            refine lv_aload_n hx hb d_M_commit_85 rfl (lv_at hl 2 rfl) ?_
            refine lv_bipush (v := (nI 32)) hx hb d_M_commit_86 (by decide) ?_
            refine lv_iload_n hx hb d_M_commit_88 rfl (lv_at hl 1 rfl) ?_
            refine lv_iload_n hx hb d_M_commit_89 rfl (lv_at hl 0 rfl) ?_
            refine vd_callVi (As := [.int (nI 32), .int (nI (K 49 0)), .int (nI 0)]) (rest := []) CX HW (j_make l D ad K16 32 (K 49 0) 0 (by omega) (by omega) (by omega) (by omega)) mo_M_make wi_M_make ws_M_make (vr_35 CX HW) ml_M_67 rfl rfl ⟨Nat.le_of_ble_eq_true rfl, Nat.le_of_ble_eq_true rfl⟩ hl.1 (Nat.le_of_ble_eq_true rfl) d_M_commit_90 ⟨Nat.zero_le _, Nat.zero_le _⟩ (fun r17 K18 H locs q19 HW => ?_)
            obtain ⟨eK18, rfl⟩ := q19
            exact RET _ _ _ _ _ _ d_M_commit_93 (by have h90 : ¬ (vd_clM K ≠ 0) := (by omega); have h91 : ¬ (K 49 0 = 0 ∧ vd_same K 32 (vd_hereM K) = true) := (by first | (rw [c_27]; simp) | (exact fun z => c_14 z.1)); have h92 : ¬ (K 47 0 = 30) := (by exact c_39); unfold vd_cmKM vd_cmRM; rw [if_neg h90, if_neg h90, if_neg h91, if_neg h91, if_neg h92, if_neg h92]; first | (exfalso; omega) | (rw [if_pos c_49, if_pos c_49]; subst_vars; exact ⟨rfl, rfl⟩) | (rw [if_neg (by omega), if_neg (by omega)]; subst_vars; exact ⟨rfl, rfl⟩)) HW
          · refine lv_aload_n hx hb d_M_commit_71 rfl (lv_at hl 1 rfl) ?_
            refine vg_35_merging CX HW lk_M_64 d_M_commit_72 (fun b20 => ?_)
            have b20 : K 49 0 ≤ 30 := b20
            refine lv_goto (tgt := 79) hx hb d_M_commit_75 (by decide) ?_
            refine lv_istore_n (lv' := [(2, .int (nI (K 49 0))), (1, .int (nI (K 49 0))), (0, .ref (ad 35))]) hx hb d_M_commit_79 rfl hl (by decide) rfl (fun ls hl => ?_)
            refine lv_aload_n hx hb d_M_commit_80 rfl (lv_at hl 2 rfl) ?_
            refine lv_iconst (v := (nI 0)) hx hb d_M_commit_81 (by decide) ?_
            refine vt_35_merging CX HW (x := 0) (show 0 ≤ 30 by omega) lk_M_64 d_M_commit_82 (fun K21 H locs eK21 HW => ?_)
            have f47 : K21 47 0 = K 47 0 := by subst_vars; rfl
            refine lv_aload_n hx hb d_M_commit_85 rfl (lv_at hl 2 rfl) ?_
            refine lv_bipush (v := (nI 32)) hx hb d_M_commit_86 (by decide) ?_
            refine lv_iload_n hx hb d_M_commit_88 rfl (lv_at hl 1 rfl) ?_
            refine lv_iload_n hx hb d_M_commit_89 rfl (lv_at hl 0 rfl) ?_
            refine vd_callVi (As := [.int (nI 32), .int (nI (K 49 0)), .int (nI (K 49 0))]) (rest := []) CX HW (j_make l D ad K21 32 (K 49 0) (K 49 0) (by omega) (by omega) (by omega) (by omega)) mo_M_make wi_M_make ws_M_make (vr_35 CX HW) ml_M_67 rfl rfl ⟨Nat.le_of_ble_eq_true rfl, Nat.le_of_ble_eq_true rfl⟩ hl.1 (Nat.le_of_ble_eq_true rfl) d_M_commit_90 ⟨Nat.zero_le _, Nat.zero_le _⟩ (fun r22 K23 H locs q24 HW => ?_)
            obtain ⟨eK23, rfl⟩ := q24
            exact RET _ _ _ _ _ _ d_M_commit_93 (by have h90 : ¬ (vd_clM K ≠ 0) := (by omega); have h91 : ¬ (K 49 0 = 0 ∧ vd_same K 32 (vd_hereM K) = true) := (by first | (rw [c_27]; simp) | (exact fun z => c_14 z.1)); have h92 : ¬ (K 47 0 = 30) := (by exact c_39); unfold vd_cmKM vd_cmRM; rw [if_neg h90, if_neg h90, if_neg h91, if_neg h91, if_neg h92, if_neg h92]; first | (exfalso; omega) | (rw [if_pos c_49, if_pos c_49]; subst_vars; exact ⟨rfl, rfl⟩) | (rw [if_neg (by omega), if_neg (by omega)]; subst_vars; exact ⟨rfl, rfl⟩)) HW
        · refine lv_aload_n hx hb d_M_commit_52 rfl (lv_at hl 0 rfl) ?_
          refine vd_callVi (As := []) (rest := []) CX HW (j_here l D ad K) mo_M_here wi_M_here ws_M_here (vr_35 CX HW) ml_M_54 rfl rfl ⟨Nat.le_of_ble_eq_true rfl, Nat.le_of_ble_eq_true rfl⟩ hl.1 (Nat.le_of_ble_eq_true rfl) d_M_commit_53 ⟨Nat.zero_le _, Nat.zero_le _⟩ (fun r25 K26 H locs q27 HW => ?_)
          obtain ⟨rfl, rfl, b28⟩ := q27
          have b28 : vd_hereM K ≤ 30 := b28
          refine lv_goto (tgt := 63) hx hb d_M_commit_56 (by decide) ?_
          refine lv_istore_n (lv' := [(1, .int (nI (vd_hereM K))), (0, .ref (ad 35))]) hx hb d_M_commit_63 rfl hl (by decide) rfl (fun ls hl => ?_)
          refine lv_aload_n hx hb d_M_commit_64 rfl (lv_at hl 1 rfl) ?_
          refine vd_callVi (As := []) (rest := []) CX HW (j_here l D ad K) mo_M_here wi_M_here ws_M_here (vr_35 CX HW) ml_M_54 rfl rfl ⟨Nat.le_of_ble_eq_true rfl, Nat.le_of_ble_eq_true rfl⟩ hl.1 (Nat.le_of_ble_eq_true rfl) d_M_commit_65 ⟨Nat.zero_le _, Nat.zero_le _⟩ (fun r29 K30 H locs q31 HW => ?_)
          obtain ⟨rfl, rfl, b32⟩ := q31
          have b32 : vd_hereM K ≤ 30 := b32
          refine vd_if_le (tgt := 78) hx hb d_M_commit_68 (by decide) (by omega) (fun c_68 => ?_) (fun c_68 => ?_)
          · refine lv_iconst (v := (nI 0)) hx hb d_M_commit_78 (by decide) ?_
            refine lv_istore_n (lv' := [(2, .int (nI 0)), (1, .int (nI (vd_hereM K))), (0, .ref (ad 35))]) hx hb d_M_commit_79 rfl hl (by decide) rfl (fun ls hl => ?_)
            refine lv_aload_n hx hb d_M_commit_80 rfl (lv_at hl 2 rfl) ?_
            refine lv_iconst (v := (nI 0)) hx hb d_M_commit_81 (by decide) ?_
            refine vt_35_merging CX HW (x := 0) (show 0 ≤ 30 by omega) lk_M_64 d_M_commit_82 (fun K33 H locs eK33 HW => ?_)
            have f47 : K33 47 0 = K 47 0 := by subst_vars; rfl
            refine lv_aload_n hx hb d_M_commit_85 rfl (lv_at hl 2 rfl) ?_
            refine lv_bipush (v := (nI 32)) hx hb d_M_commit_86 (by decide) ?_
            refine lv_iload_n hx hb d_M_commit_88 rfl (lv_at hl 1 rfl) ?_
            refine lv_iload_n hx hb d_M_commit_89 rfl (lv_at hl 0 rfl) ?_
            refine vd_callVi (As := [.int (nI 32), .int (nI (vd_hereM K)), .int (nI 0)]) (rest := []) CX HW (j_make l D ad K33 32 (vd_hereM K) 0 (by omega) (by omega) (by omega) (by omega)) mo_M_make wi_M_make ws_M_make (vr_35 CX HW) ml_M_67 rfl rfl ⟨Nat.le_of_ble_eq_true rfl, Nat.le_of_ble_eq_true rfl⟩ hl.1 (Nat.le_of_ble_eq_true rfl) d_M_commit_90 ⟨Nat.zero_le _, Nat.zero_le _⟩ (fun r34 K35 H locs q36 HW => ?_)
            obtain ⟨eK35, rfl⟩ := q36
            exact RET _ _ _ _ _ _ d_M_commit_93 (by have h90 : ¬ (vd_clM K ≠ 0) := (by omega); have h91 : ¬ (K 49 0 = 0 ∧ vd_same K 32 (vd_hereM K) = true) := (by first | (rw [c_27]; simp) | (exact fun z => c_14 z.1)); have h92 : ¬ (K 47 0 = 30) := (by exact c_39); unfold vd_cmKM vd_cmRM; rw [if_neg h90, if_neg h90, if_neg h91, if_neg h91, if_neg h92, if_neg h92]; first | (exfalso; omega) | (rw [if_pos c_49, if_pos c_49]; subst_vars; exact ⟨rfl, rfl⟩) | (rw [if_neg (by omega), if_neg (by omega)]; subst_vars; exact ⟨rfl, rfl⟩)) HW
          · refine lv_aload_n hx hb d_M_commit_71 rfl (lv_at hl 1 rfl) ?_
            refine vg_35_merging CX HW lk_M_64 d_M_commit_72 (fun b37 => ?_)
            have b37 : K 49 0 ≤ 30 := b37
            refine lv_goto (tgt := 79) hx hb d_M_commit_75 (by decide) ?_
            refine lv_istore_n (lv' := [(2, .int (nI (K 49 0))), (1, .int (nI (vd_hereM K))), (0, .ref (ad 35))]) hx hb d_M_commit_79 rfl hl (by decide) rfl (fun ls hl => ?_)
            refine lv_aload_n hx hb d_M_commit_80 rfl (lv_at hl 2 rfl) ?_
            refine lv_iconst (v := (nI 0)) hx hb d_M_commit_81 (by decide) ?_
            refine vt_35_merging CX HW (x := 0) (show 0 ≤ 30 by omega) lk_M_64 d_M_commit_82 (fun K38 H locs eK38 HW => ?_)
            have f47 : K38 47 0 = K 47 0 := by subst_vars; rfl
            refine lv_aload_n hx hb d_M_commit_85 rfl (lv_at hl 2 rfl) ?_
            refine lv_bipush (v := (nI 32)) hx hb d_M_commit_86 (by decide) ?_
            refine lv_iload_n hx hb d_M_commit_88 rfl (lv_at hl 1 rfl) ?_
            refine lv_iload_n hx hb d_M_commit_89 rfl (lv_at hl 0 rfl) ?_
            refine vd_callVi (As := [.int (nI 32), .int (nI (vd_hereM K)), .int (nI (K 49 0))]) (rest := []) CX HW (j_make l D ad K38 32 (vd_hereM K) (K 49 0) (by omega) (by omega) (by omega) (by omega)) mo_M_make wi_M_make ws_M_make (vr_35 CX HW) ml_M_67 rfl rfl ⟨Nat.le_of_ble_eq_true rfl, Nat.le_of_ble_eq_true rfl⟩ hl.1 (Nat.le_of_ble_eq_true rfl) d_M_commit_90 ⟨Nat.zero_le _, Nat.zero_le _⟩ (fun r39 K40 H locs q41 HW => ?_)
            obtain ⟨eK40, rfl⟩ := q41
            exact RET _ _ _ _ _ _ d_M_commit_93 (by have h90 : ¬ (vd_clM K ≠ 0) := (by omega); have h91 : ¬ (K 49 0 = 0 ∧ vd_same K 32 (vd_hereM K) = true) := (by first | (rw [c_27]; simp) | (exact fun z => c_14 z.1)); have h92 : ¬ (K 47 0 = 30) := (by exact c_39); unfold vd_cmKM vd_cmRM; rw [if_neg h90, if_neg h90, if_neg h91, if_neg h91, if_neg h92, if_neg h92]; first | (exfalso; omega) | (rw [if_pos c_49, if_pos c_49]; subst_vars; exact ⟨rfl, rfl⟩) | (rw [if_neg (by omega), if_neg (by omega)]; subst_vars; exact ⟨rfl, rfl⟩)) HW
      · refine lv_bipush (v := (-2 : Int32)) hx hb d_M_commit_42 (by decide) ?_
        exact RET _ _ _ _ _ _ d_M_commit_44 (by have h90 : ¬ (vd_clM K ≠ 0) := (by omega); have h91 : ¬ (K 49 0 = 0 ∧ vd_same K 32 (vd_hereM K) = true) := (by first | (rw [c_27]; simp) | (exact fun z => c_14 z.1)); have h92 : K 47 0 = 30 := (by exact c_39); unfold vd_cmKM vd_cmRM; rw [if_neg h90, if_neg h90, if_neg h91, if_neg h91, if_pos h92, if_pos h92]; exact ⟨rfl, rfl⟩) HW
    · refine lv_aload_n hx hb d_M_commit_17 rfl (lv_at hl 0 rfl) ?_
      refine lv_bipush (v := (nI 32)) hx hb d_M_commit_18 (by decide) ?_
      refine lv_aload_n hx hb d_M_commit_20 rfl (lv_at hl 0 rfl) ?_
      refine vd_callVi (As := []) (rest := [.int (nI 32), .ref (ad 35)]) CX HW (j_here l D ad K) mo_M_here wi_M_here ws_M_here (vr_35 CX HW) ml_M_54 rfl rfl ⟨Nat.le_of_ble_eq_true rfl, Nat.le_of_ble_eq_true rfl⟩ hl.1 (Nat.le_of_ble_eq_true rfl) d_M_commit_21 ⟨Nat.zero_le _, Nat.zero_le _⟩ (fun r42 K43 H locs q44 HW => ?_)
      obtain ⟨rfl, rfl, b45⟩ := q44
      have b45 : vd_hereM K ≤ 30 := b45
      refine vd_callVi (As := [.int (nI 32), .int (nI (vd_hereM K))]) (rest := []) CX HW (j_same l D ad K 32 (vd_hereM K) (by omega) (by omega)) mo_M_same wi_M_same ws_M_same (vr_35 CX HW) ml_M_50 rfl rfl ⟨Nat.le_of_ble_eq_true rfl, Nat.le_of_ble_eq_true rfl⟩ hl.1 (Nat.le_of_ble_eq_true rfl) d_M_commit_24 ⟨Nat.zero_le _, Nat.zero_le _⟩ (fun r46 K47 H locs q48 HW => ?_)
      obtain ⟨rfl, rfl⟩ := q48
      refine vd_ifb_eq (tgt := 33) hx hb d_M_commit_27 (by decide) (fun c_27 => ?_) (fun c_27 => ?_)
      · refine lv_aload_n hx hb d_M_commit_33 rfl (lv_at hl 0 rfl) ?_
        refine vg_35_made CX HW lk_M_58 d_M_commit_34 (fun b49 => ?_)
        have b49 : K 47 0 ≤ 30 := b49
        refine lv_bipush (v := (nI 30)) hx hb d_M_commit_37 (by decide) ?_
        refine vd_icmp_ne (tgt := 45) hx hb d_M_commit_39 (by decide) (by omega) (by omega) (fun c_39 => ?_) (fun c_39 => ?_)
        · refine lv_aload_n hx hb d_M_commit_45 rfl (lv_at hl 0 rfl) ?_
          refine vd_callVi (As := []) (rest := []) CX HW (j_here l D ad K) mo_M_here wi_M_here ws_M_here (vr_35 CX HW) ml_M_54 rfl rfl ⟨Nat.le_of_ble_eq_true rfl, Nat.le_of_ble_eq_true rfl⟩ hl.1 (Nat.le_of_ble_eq_true rfl) d_M_commit_46 ⟨Nat.zero_le _, Nat.zero_le _⟩ (fun r50 K51 H locs q52 HW => ?_)
          obtain ⟨rfl, rfl, b53⟩ := q52
          have b53 : vd_hereM K ≤ 30 := b53
          refine vd_if_le (tgt := 59) hx hb d_M_commit_49 (by decide) (by omega) (fun c_49 => ?_) (fun c_49 => ?_)
          · refine lv_aload_n hx hb d_M_commit_59 rfl (lv_at hl 0 rfl) ?_
            refine vg_35_merging CX HW lk_M_64 d_M_commit_60 (fun b54 => ?_)
            have b54 : K 49 0 ≤ 30 := b54
            refine lv_istore_n (lv' := [(1, .int (nI (K 49 0))), (0, .ref (ad 35))]) hx hb d_M_commit_63 rfl hl (by decide) rfl (fun ls hl => ?_)
            refine lv_aload_n hx hb d_M_commit_64 rfl (lv_at hl 1 rfl) ?_
            refine vd_callVi (As := []) (rest := []) CX HW (j_here l D ad K) mo_M_here wi_M_here ws_M_here (vr_35 CX HW) ml_M_54 rfl rfl ⟨Nat.le_of_ble_eq_true rfl, Nat.le_of_ble_eq_true rfl⟩ hl.1 (Nat.le_of_ble_eq_true rfl) d_M_commit_65 ⟨Nat.zero_le _, Nat.zero_le _⟩ (fun r55 K56 H locs q57 HW => ?_)
            obtain ⟨rfl, rfl, b58⟩ := q57
            have b58 : vd_hereM K ≤ 30 := b58
            refine vd_if_le (tgt := 78) hx hb d_M_commit_68 (by decide) (by omega) (fun c_68 => ?_) (fun c_68 => ?_)
            · refine lv_iconst (v := (nI 0)) hx hb d_M_commit_78 (by decide) ?_
              refine lv_istore_n (lv' := [(2, .int (nI 0)), (1, .int (nI (K 49 0))), (0, .ref (ad 35))]) hx hb d_M_commit_79 rfl hl (by decide) rfl (fun ls hl => ?_)
              refine lv_aload_n hx hb d_M_commit_80 rfl (lv_at hl 2 rfl) ?_
              refine lv_iconst (v := (nI 0)) hx hb d_M_commit_81 (by decide) ?_
              refine vt_35_merging CX HW (x := 0) (show 0 ≤ 30 by omega) lk_M_64 d_M_commit_82 (fun K59 H locs eK59 HW => ?_)
              have f47 : K59 47 0 = K 47 0 := by subst_vars; rfl
              refine lv_aload_n hx hb d_M_commit_85 rfl (lv_at hl 2 rfl) ?_
              refine lv_bipush (v := (nI 32)) hx hb d_M_commit_86 (by decide) ?_
              refine lv_iload_n hx hb d_M_commit_88 rfl (lv_at hl 1 rfl) ?_
              refine lv_iload_n hx hb d_M_commit_89 rfl (lv_at hl 0 rfl) ?_
              refine vd_callVi (As := [.int (nI 32), .int (nI (K 49 0)), .int (nI 0)]) (rest := []) CX HW (j_make l D ad K59 32 (K 49 0) 0 (by omega) (by omega) (by omega) (by omega)) mo_M_make wi_M_make ws_M_make (vr_35 CX HW) ml_M_67 rfl rfl ⟨Nat.le_of_ble_eq_true rfl, Nat.le_of_ble_eq_true rfl⟩ hl.1 (Nat.le_of_ble_eq_true rfl) d_M_commit_90 ⟨Nat.zero_le _, Nat.zero_le _⟩ (fun r60 K61 H locs q62 HW => ?_)
              obtain ⟨eK61, rfl⟩ := q62
              exact RET _ _ _ _ _ _ d_M_commit_93 (by have h90 : ¬ (vd_clM K ≠ 0) := (by omega); have h91 : ¬ (K 49 0 = 0 ∧ vd_same K 32 (vd_hereM K) = true) := (by first | (rw [c_27]; simp) | (exact fun z => c_14 z.1)); have h92 : ¬ (K 47 0 = 30) := (by exact c_39); unfold vd_cmKM vd_cmRM; rw [if_neg h90, if_neg h90, if_neg h91, if_neg h91, if_neg h92, if_neg h92]; first | (exfalso; omega) | (rw [if_pos c_49, if_pos c_49]; subst_vars; exact ⟨rfl, rfl⟩) | (rw [if_neg (by omega), if_neg (by omega)]; subst_vars; exact ⟨rfl, rfl⟩)) HW
            · refine lv_aload_n hx hb d_M_commit_71 rfl (lv_at hl 1 rfl) ?_
              refine vg_35_merging CX HW lk_M_64 d_M_commit_72 (fun b63 => ?_)
              have b63 : K 49 0 ≤ 30 := b63
              refine lv_goto (tgt := 79) hx hb d_M_commit_75 (by decide) ?_
              refine lv_istore_n (lv' := [(2, .int (nI (K 49 0))), (1, .int (nI (K 49 0))), (0, .ref (ad 35))]) hx hb d_M_commit_79 rfl hl (by decide) rfl (fun ls hl => ?_)
              refine lv_aload_n hx hb d_M_commit_80 rfl (lv_at hl 2 rfl) ?_
              refine lv_iconst (v := (nI 0)) hx hb d_M_commit_81 (by decide) ?_
              refine vt_35_merging CX HW (x := 0) (show 0 ≤ 30 by omega) lk_M_64 d_M_commit_82 (fun K64 H locs eK64 HW => ?_)
              have f47 : K64 47 0 = K 47 0 := by subst_vars; rfl
              refine lv_aload_n hx hb d_M_commit_85 rfl (lv_at hl 2 rfl) ?_
              refine lv_bipush (v := (nI 32)) hx hb d_M_commit_86 (by decide) ?_
              refine lv_iload_n hx hb d_M_commit_88 rfl (lv_at hl 1 rfl) ?_
              refine lv_iload_n hx hb d_M_commit_89 rfl (lv_at hl 0 rfl) ?_
              refine vd_callVi (As := [.int (nI 32), .int (nI (K 49 0)), .int (nI (K 49 0))]) (rest := []) CX HW (j_make l D ad K64 32 (K 49 0) (K 49 0) (by omega) (by omega) (by omega) (by omega)) mo_M_make wi_M_make ws_M_make (vr_35 CX HW) ml_M_67 rfl rfl ⟨Nat.le_of_ble_eq_true rfl, Nat.le_of_ble_eq_true rfl⟩ hl.1 (Nat.le_of_ble_eq_true rfl) d_M_commit_90 ⟨Nat.zero_le _, Nat.zero_le _⟩ (fun r65 K66 H locs q67 HW => ?_)
              obtain ⟨eK66, rfl⟩ := q67
              exact RET _ _ _ _ _ _ d_M_commit_93 (by have h90 : ¬ (vd_clM K ≠ 0) := (by omega); have h91 : ¬ (K 49 0 = 0 ∧ vd_same K 32 (vd_hereM K) = true) := (by first | (rw [c_27]; simp) | (exact fun z => c_14 z.1)); have h92 : ¬ (K 47 0 = 30) := (by exact c_39); unfold vd_cmKM vd_cmRM; rw [if_neg h90, if_neg h90, if_neg h91, if_neg h91, if_neg h92, if_neg h92]; first | (exfalso; omega) | (rw [if_pos c_49, if_pos c_49]; subst_vars; exact ⟨rfl, rfl⟩) | (rw [if_neg (by omega), if_neg (by omega)]; subst_vars; exact ⟨rfl, rfl⟩)) HW
          · refine lv_aload_n hx hb d_M_commit_52 rfl (lv_at hl 0 rfl) ?_
            refine vd_callVi (As := []) (rest := []) CX HW (j_here l D ad K) mo_M_here wi_M_here ws_M_here (vr_35 CX HW) ml_M_54 rfl rfl ⟨Nat.le_of_ble_eq_true rfl, Nat.le_of_ble_eq_true rfl⟩ hl.1 (Nat.le_of_ble_eq_true rfl) d_M_commit_53 ⟨Nat.zero_le _, Nat.zero_le _⟩ (fun r68 K69 H locs q70 HW => ?_)
            obtain ⟨rfl, rfl, b71⟩ := q70
            have b71 : vd_hereM K ≤ 30 := b71
            refine lv_goto (tgt := 63) hx hb d_M_commit_56 (by decide) ?_
            refine lv_istore_n (lv' := [(1, .int (nI (vd_hereM K))), (0, .ref (ad 35))]) hx hb d_M_commit_63 rfl hl (by decide) rfl (fun ls hl => ?_)
            refine lv_aload_n hx hb d_M_commit_64 rfl (lv_at hl 1 rfl) ?_
            refine vd_callVi (As := []) (rest := []) CX HW (j_here l D ad K) mo_M_here wi_M_here ws_M_here (vr_35 CX HW) ml_M_54 rfl rfl ⟨Nat.le_of_ble_eq_true rfl, Nat.le_of_ble_eq_true rfl⟩ hl.1 (Nat.le_of_ble_eq_true rfl) d_M_commit_65 ⟨Nat.zero_le _, Nat.zero_le _⟩ (fun r72 K73 H locs q74 HW => ?_)
            obtain ⟨rfl, rfl, b75⟩ := q74
            have b75 : vd_hereM K ≤ 30 := b75
            refine vd_if_le (tgt := 78) hx hb d_M_commit_68 (by decide) (by omega) (fun c_68 => ?_) (fun c_68 => ?_)
            · refine lv_iconst (v := (nI 0)) hx hb d_M_commit_78 (by decide) ?_
              refine lv_istore_n (lv' := [(2, .int (nI 0)), (1, .int (nI (vd_hereM K))), (0, .ref (ad 35))]) hx hb d_M_commit_79 rfl hl (by decide) rfl (fun ls hl => ?_)
              refine lv_aload_n hx hb d_M_commit_80 rfl (lv_at hl 2 rfl) ?_
              refine lv_iconst (v := (nI 0)) hx hb d_M_commit_81 (by decide) ?_
              refine vt_35_merging CX HW (x := 0) (show 0 ≤ 30 by omega) lk_M_64 d_M_commit_82 (fun K76 H locs eK76 HW => ?_)
              have f47 : K76 47 0 = K 47 0 := by subst_vars; rfl
              refine lv_aload_n hx hb d_M_commit_85 rfl (lv_at hl 2 rfl) ?_
              refine lv_bipush (v := (nI 32)) hx hb d_M_commit_86 (by decide) ?_
              refine lv_iload_n hx hb d_M_commit_88 rfl (lv_at hl 1 rfl) ?_
              refine lv_iload_n hx hb d_M_commit_89 rfl (lv_at hl 0 rfl) ?_
              refine vd_callVi (As := [.int (nI 32), .int (nI (vd_hereM K)), .int (nI 0)]) (rest := []) CX HW (j_make l D ad K76 32 (vd_hereM K) 0 (by omega) (by omega) (by omega) (by omega)) mo_M_make wi_M_make ws_M_make (vr_35 CX HW) ml_M_67 rfl rfl ⟨Nat.le_of_ble_eq_true rfl, Nat.le_of_ble_eq_true rfl⟩ hl.1 (Nat.le_of_ble_eq_true rfl) d_M_commit_90 ⟨Nat.zero_le _, Nat.zero_le _⟩ (fun r77 K78 H locs q79 HW => ?_)
              obtain ⟨eK78, rfl⟩ := q79
              exact RET _ _ _ _ _ _ d_M_commit_93 (by have h90 : ¬ (vd_clM K ≠ 0) := (by omega); have h91 : ¬ (K 49 0 = 0 ∧ vd_same K 32 (vd_hereM K) = true) := (by first | (rw [c_27]; simp) | (exact fun z => c_14 z.1)); have h92 : ¬ (K 47 0 = 30) := (by exact c_39); unfold vd_cmKM vd_cmRM; rw [if_neg h90, if_neg h90, if_neg h91, if_neg h91, if_neg h92, if_neg h92]; first | (exfalso; omega) | (rw [if_pos c_49, if_pos c_49]; subst_vars; exact ⟨rfl, rfl⟩) | (rw [if_neg (by omega), if_neg (by omega)]; subst_vars; exact ⟨rfl, rfl⟩)) HW
            · refine lv_aload_n hx hb d_M_commit_71 rfl (lv_at hl 1 rfl) ?_
              refine vg_35_merging CX HW lk_M_64 d_M_commit_72 (fun b80 => ?_)
              have b80 : K 49 0 ≤ 30 := b80
              refine lv_goto (tgt := 79) hx hb d_M_commit_75 (by decide) ?_
              refine lv_istore_n (lv' := [(2, .int (nI (K 49 0))), (1, .int (nI (vd_hereM K))), (0, .ref (ad 35))]) hx hb d_M_commit_79 rfl hl (by decide) rfl (fun ls hl => ?_)
              refine lv_aload_n hx hb d_M_commit_80 rfl (lv_at hl 2 rfl) ?_
              refine lv_iconst (v := (nI 0)) hx hb d_M_commit_81 (by decide) ?_
              refine vt_35_merging CX HW (x := 0) (show 0 ≤ 30 by omega) lk_M_64 d_M_commit_82 (fun K81 H locs eK81 HW => ?_)
              have f47 : K81 47 0 = K 47 0 := by subst_vars; rfl
              refine lv_aload_n hx hb d_M_commit_85 rfl (lv_at hl 2 rfl) ?_
              refine lv_bipush (v := (nI 32)) hx hb d_M_commit_86 (by decide) ?_
              refine lv_iload_n hx hb d_M_commit_88 rfl (lv_at hl 1 rfl) ?_
              refine lv_iload_n hx hb d_M_commit_89 rfl (lv_at hl 0 rfl) ?_
              refine vd_callVi (As := [.int (nI 32), .int (nI (vd_hereM K)), .int (nI (K 49 0))]) (rest := []) CX HW (j_make l D ad K81 32 (vd_hereM K) (K 49 0) (by omega) (by omega) (by omega) (by omega)) mo_M_make wi_M_make ws_M_make (vr_35 CX HW) ml_M_67 rfl rfl ⟨Nat.le_of_ble_eq_true rfl, Nat.le_of_ble_eq_true rfl⟩ hl.1 (Nat.le_of_ble_eq_true rfl) d_M_commit_90 ⟨Nat.zero_le _, Nat.zero_le _⟩ (fun r82 K83 H locs q84 HW => ?_)
              obtain ⟨eK83, rfl⟩ := q84
              exact RET _ _ _ _ _ _ d_M_commit_93 (by have h90 : ¬ (vd_clM K ≠ 0) := (by omega); have h91 : ¬ (K 49 0 = 0 ∧ vd_same K 32 (vd_hereM K) = true) := (by first | (rw [c_27]; simp) | (exact fun z => c_14 z.1)); have h92 : ¬ (K 47 0 = 30) := (by exact c_39); unfold vd_cmKM vd_cmRM; rw [if_neg h90, if_neg h90, if_neg h91, if_neg h91, if_neg h92, if_neg h92]; first | (exfalso; omega) | (rw [if_pos c_49, if_pos c_49]; subst_vars; exact ⟨rfl, rfl⟩) | (rw [if_neg (by omega), if_neg (by omega)]; subst_vars; exact ⟨rfl, rfl⟩)) HW
        · refine lv_bipush (v := (-2 : Int32)) hx hb d_M_commit_42 (by decide) ?_
          exact RET _ _ _ _ _ _ d_M_commit_44 (by have h90 : ¬ (vd_clM K ≠ 0) := (by omega); have h91 : ¬ (K 49 0 = 0 ∧ vd_same K 32 (vd_hereM K) = true) := (by first | (rw [c_27]; simp) | (exact fun z => c_14 z.1)); have h92 : K 47 0 = 30 := (by exact c_39); unfold vd_cmKM vd_cmRM; rw [if_neg h90, if_neg h90, if_neg h91, if_neg h91, if_pos h92, if_pos h92]; exact ⟨rfl, rfl⟩) HW
      · refine lv_bipush (v := (-3 : Int32)) hx hb d_M_commit_30 (by decide) ?_
        exact RET _ _ _ _ _ _ d_M_commit_32 (by have h90 : ¬ (vd_clM K ≠ 0) := (by omega); have h91 : K 49 0 = 0 ∧ vd_same K 32 (vd_hereM K) = true := (by exact ⟨c_14, c_27⟩); unfold vd_cmKM vd_cmRM; rw [if_neg h90, if_neg h90, if_pos h91, if_pos h91]; exact ⟨rfl, rfl⟩) HW
  · refine lv_bipush (v := (-5 : Int32)) hx hb d_M_commit_7 (by decide) ?_
    exact RET _ _ _ _ _ _ d_M_commit_9 (by have h90 : vd_clM K ≠ 0 := (by exact c_4); unfold vd_cmKM vd_cmRM; rw [if_pos h90, if_pos h90]; exact ⟨rfl, rfl⟩) HW
set_option maxHeartbeats 1000000 in
set_option maxRecDepth 100000 in
theorem j_branch (l : Launch) (D : va_G) (ad : Nat → Nat) (K : KT) (x : Int32)  : vd_MI l y_M_branch c_M_branch 2 (some .int) 1 22 D ad [.ref (ad 35), .int x] K (fun (ans : Int32) (K' : KT) => K' = (if (vd_in 0 5 x && (K 18 x.toNatClampNeg == 0) && (vd_hereM K != 0)) = true then vd_st K 18 x.toNatClampNeg (vd_hereM K) else K) ∧ ans = (if (vd_in 0 5 x && (K 18 x.toNatClampNeg == 0) && (vd_hereM K != 0)) = true then nI 0 else (-1 : Int32))) := by
  refine vd_entI (by decide) (Nat.le_of_ble_eq_true rfl) (lv := [(0, .ref (ad 35)), (1, .int x)]) rfl ?_
  intro p e s m args below meth cd ls Q CX hl H locs HW RET
  have hx := CX.1
  have hb := CX.2.1
  refine lv_iload_n hx hb d_M_branch_0 rfl (lv_at hl 1 rfl) ?_
  refine lv_iconst (v := (nI 0)) hx hb d_M_branch_1 (by decide) ?_
  refine lv_iconst (v := (nI 5)) hx hb d_M_branch_2 (by decide) ?_
  refine vd_callSi (As := [.int x, .int (nI 0), .int (nI 5)]) (rest := []) CX HW (j_in l D ad K x 0 5 (by omega) (by omega)) mo_M_in wt_M_in ml_M_42 rfl rfl ⟨Nat.le_of_ble_eq_true rfl, Nat.le_of_ble_eq_true rfl⟩ hl.1 (Nat.le_of_ble_eq_true rfl) d_M_branch_3 ⟨Nat.zero_le _, Nat.zero_le _⟩ (fun r1 K2 H locs q3 HW => ?_)
  obtain ⟨rfl, rfl⟩ := q3
  refine vd_ifb_eq (tgt := 25) hx hb d_M_branch_6 (by decide) (fun c_6 => ?_) (fun c_6 => ?_)
  · refine lv_iconst (v := (-1 : Int32)) hx hb d_M_branch_25 (by decide) ?_
    exact RET _ _ _ _ _ _ d_M_branch_26 (by first | (have h90 : ¬ ((vd_in 0 5 (nI f) && (K 18 f == 0) && (vd_hereM K != 0)) = true) := (by rw [c_22]; simp); rw [nI_clamp (show f < 2 ^ 31 by omega)]; rw [if_neg h90, if_neg h90]; exact ⟨rfl, rfl⟩) | (have h90 : ¬ ((vd_in 0 5 (nI f) && (K 18 f == 0) && (vd_hereM K != 0)) = true) := (by rw [beq_false_of_ne c_15]; simp); rw [nI_clamp (show f < 2 ^ 31 by omega)]; rw [if_neg h90, if_neg h90]; exact ⟨rfl, rfl⟩) | (have h90 : ¬ ((vd_in 0 5 x && (K 18 x.toNatClampNeg == 0) && (vd_hereM K != 0)) = true) := (by rw [c_6]; simp); rw [if_neg h90, if_neg h90]; exact ⟨rfl, rfl⟩)) HW
  · obtain ⟨f, hf1, hf2, rfl⟩ := vd_in_t c_6
    refine lv_aload_n hx hb d_M_branch_9 rfl (lv_at hl 0 rfl) ?_
    refine vg_35_branch CX HW lk_M_23 d_M_branch_10 ?_
    refine lv_iload_n hx hb d_M_branch_13 rfl (lv_at hl 1 rfl) ?_
    refine vd_iald CX HW (j := 18) (i := f) rfl (show f < 6 by omega) d_M_branch_14 (fun b4 => ?_)
    have b4 : K 18 f ≤ 30 := b4
    refine vd_if_gt (tgt := 25) hx hb d_M_branch_15 (by decide) (by omega) (fun c_15 => ?_) (fun c_15 => ?_)
    · refine lv_iconst (v := (-1 : Int32)) hx hb d_M_branch_25 (by decide) ?_
      exact RET _ _ _ _ _ _ d_M_branch_26 (by first | (have h90 : ¬ ((vd_in 0 5 (nI f) && (K 18 f == 0) && (vd_hereM K != 0)) = true) := (by rw [c_22]; simp); rw [nI_clamp (show f < 2 ^ 31 by omega)]; rw [if_neg h90, if_neg h90]; exact ⟨rfl, rfl⟩) | (have h90 : ¬ ((vd_in 0 5 (nI f) && (K 18 f == 0) && (vd_hereM K != 0)) = true) := (by rw [beq_false_of_ne c_15]; simp); rw [nI_clamp (show f < 2 ^ 31 by omega)]; rw [if_neg h90, if_neg h90]; exact ⟨rfl, rfl⟩) | (have h90 : ¬ ((vd_in 0 5 x && (K 18 x.toNatClampNeg == 0) && (vd_hereM K != 0)) = true) := (by rw [c_6]; simp); rw [if_neg h90, if_neg h90]; exact ⟨rfl, rfl⟩)) HW
    · refine lv_aload_n hx hb d_M_branch_18 rfl (lv_at hl 0 rfl) ?_
      refine vd_callVi (As := []) (rest := []) CX HW (j_here l D ad K) mo_M_here wi_M_here ws_M_here (vr_35 CX HW) ml_M_54 rfl rfl ⟨Nat.le_of_ble_eq_true rfl, Nat.le_of_ble_eq_true rfl⟩ hl.1 (Nat.le_of_ble_eq_true rfl) d_M_branch_19 ⟨Nat.zero_le _, Nat.zero_le _⟩ (fun r5 K6 H locs q7 HW => ?_)
      obtain ⟨rfl, rfl, b8⟩ := q7
      have b8 : vd_hereM K ≤ 30 := b8
      refine vd_if_ne (tgt := 27) hx hb d_M_branch_22 (by decide) (by omega) (fun c_22 => ?_) (fun c_22 => ?_)
      · refine lv_aload_n hx hb d_M_branch_27 rfl (lv_at hl 0 rfl) ?_
        refine vg_35_branch CX HW lk_M_23 d_M_branch_28 ?_
        refine lv_iload_n hx hb d_M_branch_31 rfl (lv_at hl 1 rfl) ?_
        refine lv_aload_n hx hb d_M_branch_32 rfl (lv_at hl 0 rfl) ?_
        refine vd_callVi (As := []) (rest := [.int (nI f), .ref (ad 18)]) CX HW (j_here l D ad K) mo_M_here wi_M_here ws_M_here (vr_35 CX HW) ml_M_54 rfl rfl ⟨Nat.le_of_ble_eq_true rfl, Nat.le_of_ble_eq_true rfl⟩ hl.1 (Nat.le_of_ble_eq_true rfl) d_M_branch_33 ⟨Nat.zero_le _, Nat.zero_le _⟩ (fun r9 K10 H locs q11 HW => ?_)
        obtain ⟨rfl, rfl, b12⟩ := q11
        have b12 : vd_hereM K ≤ 30 := b12
        refine vd_iast CX HW (j := 18) (i := f) (x := (vd_hereM K)) rfl (show f < 6 by omega) (show vd_hereM K ≤ 30 by omega) d_M_branch_36 (fun K13 H locs eK13 HW => ?_)
        refine lv_iconst (v := (nI 0)) hx hb d_M_branch_37 (by decide) ?_
        exact RET _ _ _ _ _ _ d_M_branch_38 (by have h90 : (vd_in 0 5 (nI f) && (K 18 f == 0) && (vd_hereM K != 0)) = true := (by rw [c_6, c_15]; simpa using c_22); rw [nI_clamp (show f < 2 ^ 31 by omega)]; rw [if_pos h90, if_pos h90]; subst_vars; exact ⟨rfl, rfl⟩) HW
      · refine lv_iconst (v := (-1 : Int32)) hx hb d_M_branch_25 (by decide) ?_
        exact RET _ _ _ _ _ _ d_M_branch_26 (by first | (have h90 : ¬ ((vd_in 0 5 (nI f) && (K 18 f == 0) && (vd_hereM K != 0)) = true) := (by rw [c_22]; simp); rw [nI_clamp (show f < 2 ^ 31 by omega)]; rw [if_neg h90, if_neg h90]; exact ⟨rfl, rfl⟩) | (have h90 : ¬ ((vd_in 0 5 (nI f) && (K 18 f == 0) && (vd_hereM K != 0)) = true) := (by rw [beq_false_of_ne c_15]; simp); rw [nI_clamp (show f < 2 ^ 31 by omega)]; rw [if_neg h90, if_neg h90]; exact ⟨rfl, rfl⟩) | (have h90 : ¬ ((vd_in 0 5 x && (K 18 x.toNatClampNeg == 0) && (vd_hereM K != 0)) = true) := (by rw [c_6]; simp); rw [if_neg h90, if_neg h90]; exact ⟨rfl, rfl⟩)) HW
set_option maxHeartbeats 1000000 in
set_option maxRecDepth 100000 in
theorem j_turn (l : Launch) (D : va_G) (ad : Nat → Nat) (K : KT) (x : Int32)  : vd_MI l y_M_turn c_M_turn 2 (some .int) 2 44 D ad [.ref (ad 35), .int x] K (fun (ans : Int32) (K' : KT) => K' = vd_tuKM K x ∧ ans = (vd_tuRM K x)) := by
  refine vd_entI (by decide) (Nat.le_of_ble_eq_true rfl) (lv := [(0, .ref (ad 35)), (1, .int x)]) rfl ?_
  intro p e s m args below meth cd ls Q CX hl H locs HW RET
  have hx := CX.1
  have hb := CX.2.1
  refine lv_iload_n hx hb d_M_turn_0 rfl (lv_at hl 1 rfl) ?_
  refine lv_iconst (v := (nI 0)) hx hb d_M_turn_1 (by decide) ?_
  refine lv_iconst (v := (nI 5)) hx hb d_M_turn_2 (by decide) ?_
  refine vd_callSi (As := [.int x, .int (nI 0), .int (nI 5)]) (rest := []) CX HW (j_in l D ad K x 0 5 (by omega) (by omega)) mo_M_in wt_M_in ml_M_42 rfl rfl ⟨Nat.le_of_ble_eq_true rfl, Nat.le_of_ble_eq_true rfl⟩ hl.1 (Nat.le_of_ble_eq_true rfl) d_M_turn_3 ⟨Nat.zero_le _, Nat.zero_le _⟩ (fun r1 K2 H locs q3 HW => ?_)
  obtain ⟨rfl, rfl⟩ := q3
  refine vd_ifb_eq (tgt := 25) hx hb d_M_turn_6 (by decide) (fun c_6 => ?_) (fun c_6 => ?_)
  · refine lv_iconst (v := (-1 : Int32)) hx hb d_M_turn_25 (by decide) ?_
    exact RET _ _ _ _ _ _ d_M_turn_26 (by first | (have h90 : vd_thM K (nI f) = false ∨ K 49 0 ≠ 0 := (by exact Or.inr c_22); unfold vd_tuKM vd_tuRM; rw [if_pos h90, if_pos h90]; exact ⟨rfl, rfl⟩) | (have h90 : vd_thM K (nI f) = false ∨ K 49 0 ≠ 0 := (by refine Or.inl ?_; unfold vd_thM; rw [c_6, nI_clamp (show f < 2 ^ 31 by omega), c_15]; rfl); unfold vd_tuKM vd_tuRM; rw [if_pos h90, if_pos h90]; exact ⟨rfl, rfl⟩) | (have h90 : vd_thM K x = false ∨ K 49 0 ≠ 0 := (by refine Or.inl ?_; unfold vd_thM; rw [c_6]; rfl); unfold vd_tuKM vd_tuRM; rw [if_pos h90, if_pos h90]; exact ⟨rfl, rfl⟩)) HW
  · obtain ⟨f, hf1, hf2, rfl⟩ := vd_in_t c_6
    refine lv_aload_n hx hb d_M_turn_9 rfl (lv_at hl 0 rfl) ?_
    refine vg_35_branch CX HW lk_M_23 d_M_turn_10 ?_
    refine lv_iload_n hx hb d_M_turn_13 rfl (lv_at hl 1 rfl) ?_
    refine vd_iald CX HW (j := 18) (i := f) rfl (show f < 6 by omega) d_M_turn_14 (fun b4 => ?_)
    have b4 : K 18 f ≤ 30 := b4
    refine vd_if_eq (tgt := 25) hx hb d_M_turn_15 (by decide) (by omega) (fun c_15 => ?_) (fun c_15 => ?_)
    · refine lv_iconst (v := (-1 : Int32)) hx hb d_M_turn_25 (by decide) ?_
      exact RET _ _ _ _ _ _ d_M_turn_26 (by first | (have h90 : vd_thM K (nI f) = false ∨ K 49 0 ≠ 0 := (by exact Or.inr c_22); unfold vd_tuKM vd_tuRM; rw [if_pos h90, if_pos h90]; exact ⟨rfl, rfl⟩) | (have h90 : vd_thM K (nI f) = false ∨ K 49 0 ≠ 0 := (by refine Or.inl ?_; unfold vd_thM; rw [c_6, nI_clamp (show f < 2 ^ 31 by omega), c_15]; rfl); unfold vd_tuKM vd_tuRM; rw [if_pos h90, if_pos h90]; exact ⟨rfl, rfl⟩) | (have h90 : vd_thM K x = false ∨ K 49 0 ≠ 0 := (by refine Or.inl ?_; unfold vd_thM; rw [c_6]; rfl); unfold vd_tuKM vd_tuRM; rw [if_pos h90, if_pos h90]; exact ⟨rfl, rfl⟩)) HW
    · refine lv_aload_n hx hb d_M_turn_18 rfl (lv_at hl 0 rfl) ?_
      refine vg_35_merging CX HW lk_M_64 d_M_turn_19 (fun b5 => ?_)
      have b5 : K 49 0 ≤ 30 := b5
      refine vd_if_le (tgt := 27) hx hb d_M_turn_22 (by decide) (by omega) (fun c_22 => ?_) (fun c_22 => ?_)
      · have c_t : vd_thM K (nI f) = true := by unfold vd_thM; rw [c_6, nI_clamp (show f < 2 ^ 31 by omega), vd_bne c_15]; rfl
        refine lv_aload_n hx hb d_M_turn_27 rfl (lv_at hl 0 rfl) ?_
        refine vd_callVi (As := []) (rest := []) CX HW (j_tidy l D ad K) mo_M_tidy wi_M_tidy ws_M_tidy (vr_35 CX HW) ml_M_71 rfl rfl ⟨Nat.le_of_ble_eq_true rfl, Nat.le_of_ble_eq_true rfl⟩ hl.1 (Nat.le_of_ble_eq_true rfl) d_M_turn_28 ⟨Nat.zero_le _, Nat.zero_le _⟩ (fun r6 K7 H locs q8 HW => ?_)
        obtain ⟨rfl, rfl⟩ := q8
        refine vd_ifb_ne (tgt := 37) hx hb d_M_turn_31 (by decide) (fun c_31 => ?_) (fun c_31 => ?_)
        · refine lv_aload_n hx hb d_M_turn_37 rfl (lv_at hl 0 rfl) ?_
          refine lv_iload_n hx hb d_M_turn_38 rfl (lv_at hl 1 rfl) ?_
          refine vt_35_head CX HW (x := f) (show f ≤ 5 by omega) lk_M_38 d_M_turn_39 (fun K9 H locs eK9 HW => ?_)
          refine lv_aload_n hx hb d_M_turn_42 rfl (lv_at hl 0 rfl) ?_
          refine lv_aload_n hx hb d_M_turn_43 rfl (lv_at hl 0 rfl) ?_
          refine vd_callVi (As := []) (rest := [.ref (ad 35)]) CX HW (j_here l D ad K9) mo_M_here wi_M_here ws_M_here (vr_35 CX HW) ml_M_54 rfl rfl ⟨Nat.le_of_ble_eq_true rfl, Nat.le_of_ble_eq_true rfl⟩ hl.1 (Nat.le_of_ble_eq_true rfl) d_M_turn_44 ⟨Nat.zero_le _, Nat.zero_le _⟩ (fun r10 K11 H locs q12 HW => ?_)
          obtain ⟨rfl, rfl, b13⟩ := q12
          have b13 : vd_hereM K9 ≤ 30 := b13
          refine vd_callVv (As := [.int (nI (vd_hereM K9))]) (rest := []) CX HW (j_show l D ad K9 (vd_hereM K9) (by omega)) mo_M_show wi_M_show ws_M_show (vr_35 CX HW) ml_M_75 rfl rfl ⟨Nat.le_of_ble_eq_true rfl, Nat.le_of_ble_eq_true rfl⟩ hl.1 (Nat.le_of_ble_eq_true rfl) d_M_turn_47 ⟨Nat.zero_le _, Nat.zero_le _⟩ (fun K15 H locs q16 HW => ?_)
          have eK15 := q16
          have fh2 : vd_hereM K15 = K 18 f := by subst_vars; rfl
          have fh1 : vd_hereM K9 = K 18 f := by subst_vars; rfl
          refine lv_aload_n hx hb d_M_turn_50 rfl (lv_at hl 0 rfl) ?_
          refine vd_callVi (As := []) (rest := []) CX HW (j_here l D ad K15) mo_M_here wi_M_here ws_M_here (vr_35 CX HW) ml_M_54 rfl rfl ⟨Nat.le_of_ble_eq_true rfl, Nat.le_of_ble_eq_true rfl⟩ hl.1 (Nat.le_of_ble_eq_true rfl) d_M_turn_51 ⟨Nat.zero_le _, Nat.zero_le _⟩ (fun r17 K18 H locs q19 HW => ?_)
          obtain ⟨rfl, rfl, b20⟩ := q19
          have b20 : vd_hereM K15 ≤ 30 := b20
          exact RET _ _ _ _ _ _ d_M_turn_54 (by have h90 : ¬ (vd_thM K (nI f) = false ∨ K 49 0 ≠ 0) := (by rw [c_t]; simp [c_22]); have h91 : ¬ (vd_tidyM K = false) := (by rw [c_31]; decide); unfold vd_tuKM vd_tuRM; rw [nI_clamp (show f < 2 ^ 31 by omega)]; rw [if_neg h90, if_neg h90, if_neg h91, if_neg h91]; refine ⟨?_, by rw [fh2]⟩; rw [eK15, fh1, eK9]) HW
        · refine lv_bipush (v := (-4 : Int32)) hx hb d_M_turn_34 (by decide) ?_
          exact RET _ _ _ _ _ _ d_M_turn_36 (by have h90 : ¬ (vd_thM K (nI f) = false ∨ K 49 0 ≠ 0) := (by rw [c_t]; simp [c_22]); have h91 : vd_tidyM K = false := (by exact c_31); unfold vd_tuKM vd_tuRM; rw [if_neg h90, if_neg h90, if_pos h91, if_pos h91]; exact ⟨rfl, rfl⟩) HW
      · refine lv_iconst (v := (-1 : Int32)) hx hb d_M_turn_25 (by decide) ?_
        exact RET _ _ _ _ _ _ d_M_turn_26 (by first | (have h90 : vd_thM K (nI f) = false ∨ K 49 0 ≠ 0 := (by exact Or.inr c_22); unfold vd_tuKM vd_tuRM; rw [if_pos h90, if_pos h90]; exact ⟨rfl, rfl⟩) | (have h90 : vd_thM K (nI f) = false ∨ K 49 0 ≠ 0 := (by refine Or.inl ?_; unfold vd_thM; rw [c_6, nI_clamp (show f < 2 ^ 31 by omega), c_15]; rfl); unfold vd_tuKM vd_tuRM; rw [if_pos h90, if_pos h90]; exact ⟨rfl, rfl⟩) | (have h90 : vd_thM K x = false ∨ K 49 0 ≠ 0 := (by refine Or.inl ?_; unfold vd_thM; rw [c_6]; rfl); unfold vd_tuKM vd_tuRM; rw [if_pos h90, if_pos h90]; exact ⟨rfl, rfl⟩)) HW
set_option maxHeartbeats 1000000 in
set_option maxRecDepth 100000 in
theorem j_mark (l : Launch) (D : va_G) (ad : Nat → Nat) (K : KT) (cc0 : Nat) (hc : cc0 ≤ 30) : vd_MV l y_M_mark c_M_mark 3 0 0 D ad [.ref (ad 35), .int (nI cc0)] K (fun (K' : KT) => K' = vd_mar K cc0) := by
  refine vd_entV (by decide) (Nat.le_of_ble_eq_true rfl) (lv := [(0, .ref (ad 35)), (1, .int (nI cc0))]) rfl ?_
  intro p e s m args below meth cd ls Q CX hl H locs HW RET
  have hx := CX.1
  have hb := CX.2.1
  refine lv_iconst (v := (nI 0)) hx hb d_M_mark_0 (by decide) ?_
  refine lv_istore_n (lv' := [(2, .int (nI 0)), (0, .ref (ad 35)), (1, .int (nI cc0))]) hx hb d_M_mark_1 rfl hl (by decide) rfl (fun ls hl => ?_)
  have loop2 : ∀ (n : Nat) (i1 : Nat) (Kl : KT), (i1 ≤ 31) → (Kl = vd_mk0 K cc0 i1) → (31 < i1 + n) → ∀ (H : Heap) (locs : List Loc) (ls : Array Slot), vd_WS D ad s Kl H locs → lv_has ls 3 [(0, .ref (ad 35)), (1, .int (nI cc0)), (2, .int (nI i1))] → W p l e (vd_R 0 0) s m args below meth cd H locs 0 0 Q (F0 m 2 ls []) := by
    intro n
    induction n with
    | zero => intro i1 Kl hi hk hm; exfalso; omega
    | succ n ih2 =>
      intro i1 Kl hi hk hm H locs ls HW hl
      refine lv_iload_n hx hb d_M_mark_2 rfl (lv_at hl 2 rfl) ?_
      refine lv_bipush (v := (nI 31)) hx hb d_M_mark_3 (by decide) ?_
      refine vd_icmp_ge (tgt := 34) hx hb d_M_mark_5 (by decide) (by omega) (by omega) (fun c_5 => ?_) (fun c_5 => ?_)
      · refine lv_bipush (v := (nI 30)) hx hb d_M_mark_34 (by decide) ?_
        refine lv_istore_n (lv' := [(2, .int (nI 30)), (0, .ref (ad 35)), (1, .int (nI cc0))]) hx hb d_M_mark_36 rfl hl (by decide) rfl (fun ls hl => ?_)
        have loop37 : ∀ (n : Nat) (i : Nat) (Kd : KT), (i ≤ 30) → (vd_mkd i Kd = vd_mkd 30 Kl) → (i < n) → ∀ (H : Heap) (locs : List Loc) (ls : Array Slot), vd_WS D ad s Kd H locs → lv_has ls 3 [(0, .ref (ad 35)), (1, .int (nI cc0)), (2, .int (nI i))] → W p l e (vd_R 0 0) s m args below meth cd H locs 0 0 Q (F0 m 37 ls []) := by
          intro n
          induction n with
          | zero => intro i Kd hi2 hk2 hm; exfalso; omega
          | succ n ih37 =>
            intro i Kd hi2 hk2 hm H locs ls HW hl
            refine lv_iload_n hx hb d_M_mark_37 rfl (lv_at hl 2 rfl) ?_
            refine vd_if_le (tgt := 83) hx hb d_M_mark_38 (by decide) (by omega) (fun c_38 => ?_) (fun c_38 => ?_)
            · refine lv_aload_n hx hb d_M_mark_83 rfl (lv_at hl 0 rfl) ?_
              refine vg_35_marked CX HW lk_M_32 d_M_mark_84 ?_
              refine lv_iconst (v := (nI 0)) hx hb d_M_mark_87 (by decide) ?_
              refine lv_iconst (v := (nI 0)) hx hb d_M_mark_88 (by decide) ?_
              refine vd_zast CX HW (j := 21) (i := 0) (x := 0) rfl (show 0 < 31 by omega) (show 0 ≤ 1 by omega) (show 0 ≤ 1 by omega) d_M_mark_89 (fun K1 H locs eK1 HW => ?_)
              exact RET _ _ _ _ _ d_M_mark_90 (by have z : Kd = vd_mkd 30 Kl := (by rw [← hk2, c_38, vd_mkd_0]); unfold vd_mar; rw [eK1, z, hk, show i1 = 31 by omega]) HW
            · obtain ⟨j, rfl⟩ : ∃ j, i = j + 1 := ⟨i - 1, by omega⟩
              refine lv_aload_n hx hb d_M_mark_41 rfl (lv_at hl 0 rfl) ?_
              refine vg_35_marked CX HW lk_M_32 d_M_mark_42 ?_
              refine lv_iload_n hx hb d_M_mark_45 rfl (lv_at hl 2 rfl) ?_
              refine vd_zald CX HW (j := 21) (i := (j + 1)) rfl (show j + 1 < 31 by omega) d_M_mark_46 (fun b2 => ?_)
              have b2 : Kd 21 (j + 1) ≤ 1 := b2
              refine vd_if_ne (tgt := 53) hx hb d_M_mark_47 (by decide) (by omega) (fun c_47 => ?_) (fun c_47 => ?_)
              · refine lv_aload_n hx hb d_M_mark_53 rfl (lv_at hl 0 rfl) ?_
                refine vg_35_marked CX HW lk_M_32 d_M_mark_54 ?_
                refine lv_aload_n hx hb d_M_mark_57 rfl (lv_at hl 0 rfl) ?_
                refine vg_35_first CX HW lk_M_17 d_M_mark_58 ?_
                refine lv_iload_n hx hb d_M_mark_61 rfl (lv_at hl 2 rfl) ?_
                refine vd_iald CX HW (j := 16) (i := (j + 1)) rfl (show j + 1 < 31 by omega) d_M_mark_62 (fun b3 => ?_)
                have b3 : Kd 16 (j + 1) ≤ 30 := b3
                refine lv_iconst (v := (nI 1)) hx hb d_M_mark_63 (by decide) ?_
                refine vd_zast CX HW (j := 21) (i := (Kd 16 (j + 1))) (x := 1) rfl (show Kd 16 (j + 1) < 31 by omega) (show 1 ≤ 1 by omega) (show 1 ≤ 1 by omega) d_M_mark_64 (fun K4 H locs eK4 HW => ?_)
                refine lv_aload_n hx hb d_M_mark_65 rfl (lv_at hl 0 rfl) ?_
                refine vg_35_marked CX HW lk_M_32 d_M_mark_66 ?_
                refine lv_aload_n hx hb d_M_mark_69 rfl (lv_at hl 0 rfl) ?_
                refine vg_35_second CX HW lk_M_20 d_M_mark_70 ?_
                refine lv_iload_n hx hb d_M_mark_73 rfl (lv_at hl 2 rfl) ?_
                refine vd_iald CX HW (j := 17) (i := (j + 1)) rfl (show j + 1 < 31 by omega) d_M_mark_74 (fun b5 => ?_)
                have b5 : K4 17 (j + 1) ≤ 30 := b5
                refine lv_iconst (v := (nI 1)) hx hb d_M_mark_75 (by decide) ?_
                refine vd_zast CX HW (j := 21) (i := (K4 17 (j + 1))) (x := 1) rfl (show K4 17 (j + 1) < 31 by omega) (show 1 ≤ 1 by omega) (show 1 ≤ 1 by omega) d_M_mark_76 (fun K6 H locs eK6 HW => ?_)
                refine lv_iinc (v := (nI j)) (lv' := [(2, .int (nI j)), (0, .ref (ad 35)), (1, .int (nI cc0))]) hx hb d_M_mark_77 hl (k := 2) rfl (vd_dec _) (by decide) rfl (fun ls hl => ?_)
                refine lv_goto (tgt := 37) hx hb d_M_mark_80 (by decide) ?_
                exact ih37 j K6 (by omega) (by rw [← hk2, vd_mkd_s]; unfold vd_mk1; rw [if_pos c_47, eK6, eK4, vd_st_o (a := 17) (by decide)]) (by omega) H locs ls HW (lv_sub hl [1, 2, 0] rfl)
              · refine lv_goto (tgt := 77) hx hb d_M_mark_50 (by decide) ?_
                refine lv_iinc (v := (nI j)) (lv' := [(2, .int (nI j)), (0, .ref (ad 35)), (1, .int (nI cc0))]) hx hb d_M_mark_77 hl (k := 2) rfl (vd_dec _) (by decide) rfl (fun ls hl => ?_)
                refine lv_goto (tgt := 37) hx hb d_M_mark_80 (by decide) ?_
                exact ih37 j Kd (by omega) (by rw [← hk2, vd_mkd_s]; unfold vd_mk1; rw [if_neg (by omega)]) (by omega) H locs ls HW (lv_sub hl [1, 2, 0] rfl)
        exact loop37 31 30 Kl (by omega) (by rfl) (by omega) H locs ls HW (lv_sub hl [1, 2, 0] rfl)
      · refine lv_aload_n hx hb d_M_mark_8 rfl (lv_at hl 0 rfl) ?_
        refine vg_35_marked CX HW lk_M_32 d_M_mark_9 ?_
        refine lv_iload_n hx hb d_M_mark_12 rfl (lv_at hl 2 rfl) ?_
        refine lv_iload_n hx hb d_M_mark_13 rfl (lv_at hl 2 rfl) ?_
        refine lv_iload_n hx hb d_M_mark_14 rfl (lv_at hl 1 rfl) ?_
        refine vd_icmp_ne (tgt := 26) hx hb d_M_mark_15 (by decide) (by omega) (by omega) (fun c_15 => ?_) (fun c_15 => ?_)
        · refine lv_iconst (v := (nI 0)) hx hb d_M_mark_26 (by decide) ?_
          refine vd_zast CX HW (j := 21) (i := i1) (x := 0) rfl (show i1 < 31 by omega) (show 0 ≤ 1 by omega) (show 0 ≤ 1 by omega) d_M_mark_27 (fun K7 H locs eK7 HW => ?_)
          refine lv_iinc (v := (nI (i1 + 1))) (lv' := [(2, .int (nI (i1 + 1))), (0, .ref (ad 35)), (1, .int (nI cc0))]) hx hb d_M_mark_28 hl (k := 2) rfl (vd_inc _ 1) (by decide) rfl (fun ls hl => ?_)
          refine lv_goto (tgt := 2) hx hb d_M_mark_31 (by decide) ?_
          exact ih2 (i1 + 1) K7 (by omega) (by exact vd_fl_step hk eK7 (by omega) (by first | (rw [if_pos (by omega)]) | (rw [if_neg (by omega)]))) (by omega) H locs ls HW (lv_sub hl [1, 2, 0] rfl)
        · refine lv_iload_n hx hb d_M_mark_18 rfl (lv_at hl 1 rfl) ?_
          refine vd_if_le (tgt := 26) hx hb d_M_mark_19 (by decide) (by omega) (fun c_19 => ?_) (fun c_19 => ?_)
          · refine lv_iconst (v := (nI 0)) hx hb d_M_mark_26 (by decide) ?_
            refine vd_zast CX HW (j := 21) (i := i1) (x := 0) rfl (show i1 < 31 by omega) (show 0 ≤ 1 by omega) (show 0 ≤ 1 by omega) d_M_mark_27 (fun K8 H locs eK8 HW => ?_)
            refine lv_iinc (v := (nI (i1 + 1))) (lv' := [(2, .int (nI (i1 + 1))), (0, .ref (ad 35)), (1, .int (nI cc0))]) hx hb d_M_mark_28 hl (k := 2) rfl (vd_inc _ 1) (by decide) rfl (fun ls hl => ?_)
            refine lv_goto (tgt := 2) hx hb d_M_mark_31 (by decide) ?_
            exact ih2 (i1 + 1) K8 (by omega) (by exact vd_fl_step hk eK8 (by omega) (by first | (rw [if_pos (by omega)]) | (rw [if_neg (by omega)]))) (by omega) H locs ls HW (lv_sub hl [1, 2, 0] rfl)
          · refine lv_iconst (v := (nI 1)) hx hb d_M_mark_22 (by decide) ?_
            refine lv_goto (tgt := 27) hx hb d_M_mark_23 (by decide) ?_
            refine vd_zast CX HW (j := 21) (i := i1) (x := 1) rfl (show i1 < 31 by omega) (show 1 ≤ 1 by omega) (show 1 ≤ 1 by omega) d_M_mark_27 (fun K9 H locs eK9 HW => ?_)
            refine lv_iinc (v := (nI (i1 + 1))) (lv' := [(2, .int (nI (i1 + 1))), (0, .ref (ad 35)), (1, .int (nI cc0))]) hx hb d_M_mark_28 hl (k := 2) rfl (vd_inc _ 1) (by decide) rfl (fun ls hl => ?_)
            refine lv_goto (tgt := 2) hx hb d_M_mark_31 (by decide) ?_
            exact ih2 (i1 + 1) K9 (by omega) (by exact vd_fl_step hk eK9 (by omega) (by first | (rw [if_pos (by omega)]) | (rw [if_neg (by omega)]))) (by omega) H locs ls HW (lv_sub hl [1, 2, 0] rfl)
  exact loop2 32 0 K (by omega) (by unfold vd_mk0; rw [vd_fl_0]) (by omega) H locs ls HW (lv_sub hl [1, 2, 0] rfl)
set_option maxHeartbeats 1000000 in
set_option maxRecDepth 100000 in
theorem j_shared (l : Launch) (D : va_G) (ad : Nat → Nat) (K : KT) (a : Nat) (b : Nat) (ha : a ≤ 30) (hb2 : b ≤ 30) : vd_MI l y_M_shared c_M_shared 5 (some .int) 1 22 D ad [.ref (ad 35), .int (nI a), .int (nI b)] K (fun (ans : Int32) (K' : KT) => K' = vd_shK K a b ∧ ans = (nI (vd_shr K a b)) ∧ vd_shr K a b ≤ 30) := by
  refine vd_entI (by decide) (Nat.le_of_ble_eq_true rfl) (lv := [(0, .ref (ad 35)), (1, .int (nI a)), (2, .int (nI b))]) rfl ?_
  intro p e s m args below meth cd ls Q CX hl H locs HW RET
  have hx := CX.1
  have hb := CX.2.1
  refine lv_aload_n hx hb d_M_shared_0 rfl (lv_at hl 0 rfl) ?_
  refine lv_iload_n hx hb d_M_shared_1 rfl (lv_at hl 1 rfl) ?_
  refine vd_callVv (As := [.int (nI a)]) (rest := []) CX HW (j_mark l D ad K a (by omega)) mo_M_mark wi_M_mark ws_M_mark (vr_35 CX HW) ml_M_79 rfl rfl ⟨Nat.le_of_ble_eq_true rfl, Nat.le_of_ble_eq_true rfl⟩ hl.1 (Nat.le_of_ble_eq_true rfl) d_M_shared_2 ⟨Nat.zero_le _, Nat.zero_le _⟩ (fun K2 H locs q3 HW => ?_)
  have eK2 := q3
  refine lv_iconst (v := (nI 0)) hx hb d_M_shared_5 (by decide) ?_
  refine lv_istore_n (lv' := [(3, .int (nI 0)), (0, .ref (ad 35)), (1, .int (nI a)), (2, .int (nI b))]) hx hb d_M_shared_6 rfl hl (by decide) rfl (fun ls hl => ?_)
  have loop7 : ∀ (n : Nat) (i : Nat) (Kl : KT), (i ≤ 31) → (Kl = vd_fl K2 22 0 i (fun k => K2 21 k)) → (31 < i + n) → ∀ (H : Heap) (locs : List Loc) (ls : Array Slot), vd_WS D ad s Kl H locs → lv_has ls 5 [(0, .ref (ad 35)), (1, .int (nI a)), (2, .int (nI b)), (3, .int (nI i))] → W p l e (vd_R 1 22) s m args below meth cd H locs 0 0 Q (F0 m 7 ls []) := by
    intro n
    induction n with
    | zero => intro i Kl hi hk hm; exfalso; omega
    | succ n ih7 =>
      intro i Kl hi hk hm H locs ls HW hl
      refine lv_iload_n hx hb d_M_shared_7 rfl (lv_at hl 3 rfl) ?_
      refine lv_bipush (v := (nI 31)) hx hb d_M_shared_8 (by decide) ?_
      refine vd_icmp_ge (tgt := 31) hx hb d_M_shared_10 (by decide) (by omega) (by omega) (fun c_10 => ?_) (fun c_10 => ?_)
      · refine lv_aload_n hx hb d_M_shared_31 rfl (lv_at hl 0 rfl) ?_
        refine lv_iload_n hx hb d_M_shared_32 rfl (lv_at hl 2 rfl) ?_
        refine vd_callVv (As := [.int (nI b)]) (rest := []) CX HW (j_mark l D ad Kl b (by omega)) mo_M_mark wi_M_mark ws_M_mark (vr_35 CX HW) ml_M_79 rfl rfl ⟨Nat.le_of_ble_eq_true rfl, Nat.le_of_ble_eq_true rfl⟩ hl.1 (Nat.le_of_ble_eq_true rfl) d_M_shared_33 ⟨Nat.zero_le _, Nat.zero_le _⟩ (fun K5 H locs q6 HW => ?_)
        have eK5 := q6
        have hsh : K5 = vd_shK K a b := by rw [show i = 31 by omega] at hk; subst_vars; rfl
        refine lv_iconst (v := (nI 0)) hx hb d_M_shared_36 (by decide) ?_
        refine lv_istore_n (lv' := [(3, .int (nI 0)), (0, .ref (ad 35)), (1, .int (nI a)), (2, .int (nI b))]) hx hb d_M_shared_37 rfl hl (by decide) rfl (fun ls hl => ?_)
        refine lv_iconst (v := (nI 1)) hx hb d_M_shared_38 (by decide) ?_
        refine lv_istore (lv' := [(4, .int (nI 1)), (3, .int (nI 0)), (0, .ref (ad 35)), (1, .int (nI a)), (2, .int (nI b))]) hx hb d_M_shared_39 hl (by decide) rfl (fun ls hl => ?_)
        have loop41 : ∀ (n : Nat) (t : Nat) (i : Nat), (i ≤ 30) → (t = vd_topP (fun k => vd_shK K a b 21 k != 0 && vd_shK K a b 22 k != 0) i) → (30 < i + n) → ∀ (H : Heap) (locs : List Loc) (ls : Array Slot), vd_WS D ad s K5 H locs → lv_has ls 5 [(0, .ref (ad 35)), (1, .int (nI a)), (2, .int (nI b)), (3, .int (nI t)), (4, .int (nI (i + 1)))] → W p l e (vd_R 1 22) s m args below meth cd H locs 0 0 Q (F0 m 41 ls []) := by
          intro n
          induction n with
          | zero => intro t i hi2 ht hm; exfalso; omega
          | succ n ih41 =>
            intro t i hi2 ht hm H locs ls HW hl
            refine lv_iload hx hb d_M_shared_41 (lv_at hl 4 rfl) ?_
            refine lv_bipush (v := (nI 31)) hx hb d_M_shared_43 (by decide) ?_
            refine vd_icmp_ge (tgt := 77) hx hb d_M_shared_45 (by decide) (by omega) (by omega) (fun c_45 => ?_) (fun c_45 => ?_)
            · refine lv_iload_n hx hb d_M_shared_77 rfl (lv_at hl 3 rfl) ?_
              exact RET _ _ _ _ _ _ d_M_shared_78 (by rw [show i = 30 by omega] at ht; (refine ⟨hsh, ?_, vd_topP_le _ _⟩; (· rw [ht]; rfl))) HW
            · refine lv_aload_n hx hb d_M_shared_48 rfl (lv_at hl 0 rfl) ?_
              refine vg_35_marked CX HW lk_M_32 d_M_shared_49 ?_
              refine lv_iload hx hb d_M_shared_52 (lv_at hl 4 rfl) ?_
              refine vd_zald CX HW (j := 21) (i := (i + 1)) rfl (show i + 1 < 31 by omega) d_M_shared_54 (fun b7 => ?_)
              have b7 : K5 21 (i + 1) ≤ 1 := b7
              refine vd_if_eq (tgt := 71) hx hb d_M_shared_55 (by decide) (by omega) (fun c_55 => ?_) (fun c_55 => ?_)
              · refine lv_iinc (v := (nI ((i + 1) + 1))) (lv' := [(4, .int (nI ((i + 1) + 1))), (0, .ref (ad 35)), (1, .int (nI a)), (2, .int (nI b)), (3, .int (nI t))]) hx hb d_M_shared_71 hl (k := 4) rfl (vd_inc _ 1) (by decide) rfl (fun ls hl => ?_)
                refine lv_goto (tgt := 41) hx hb d_M_shared_74 (by decide) ?_
                exact ih41 t (i + 1) (by omega) (by first | (rw [vd_topP_s, ← hsh, vd_bne c_55, vd_bne c_65]; rfl) | (rw [vd_topP_s, ← hsh, c_65, if_neg (by simp), hsh]; exact ht) | (rw [vd_topP_s, ← hsh, c_55, if_neg (by simp), hsh]; exact ht)) (by omega) H locs ls HW (lv_sub hl [1, 2, 3, 4, 0] rfl)
              · refine lv_aload_n hx hb d_M_shared_58 rfl (lv_at hl 0 rfl) ?_
                refine vg_35_other CX HW lk_M_35 d_M_shared_59 ?_
                refine lv_iload hx hb d_M_shared_62 (lv_at hl 4 rfl) ?_
                refine vd_zald CX HW (j := 22) (i := (i + 1)) rfl (show i + 1 < 31 by omega) d_M_shared_64 (fun b8 => ?_)
                have b8 : K5 22 (i + 1) ≤ 1 := b8
                refine vd_if_eq (tgt := 71) hx hb d_M_shared_65 (by decide) (by omega) (fun c_65 => ?_) (fun c_65 => ?_)
                · refine lv_iinc (v := (nI ((i + 1) + 1))) (lv' := [(4, .int (nI ((i + 1) + 1))), (0, .ref (ad 35)), (1, .int (nI a)), (2, .int (nI b)), (3, .int (nI t))]) hx hb d_M_shared_71 hl (k := 4) rfl (vd_inc _ 1) (by decide) rfl (fun ls hl => ?_)
                  refine lv_goto (tgt := 41) hx hb d_M_shared_74 (by decide) ?_
                  exact ih41 t (i + 1) (by omega) (by first | (rw [vd_topP_s, ← hsh, vd_bne c_55, vd_bne c_65]; rfl) | (rw [vd_topP_s, ← hsh, c_65, if_neg (by simp), hsh]; exact ht) | (rw [vd_topP_s, ← hsh, c_55, if_neg (by simp), hsh]; exact ht)) (by omega) H locs ls HW (lv_sub hl [1, 2, 3, 4, 0] rfl)
                · refine lv_iload hx hb d_M_shared_68 (lv_at hl 4 rfl) ?_
                  refine lv_istore_n (lv' := [(3, .int (nI (i + 1))), (0, .ref (ad 35)), (1, .int (nI a)), (2, .int (nI b)), (4, .int (nI (i + 1)))]) hx hb d_M_shared_70 rfl hl (by decide) rfl (fun ls hl => ?_)
                  refine lv_iinc (v := (nI ((i + 1) + 1))) (lv' := [(4, .int (nI ((i + 1) + 1))), (3, .int (nI (i + 1))), (0, .ref (ad 35)), (1, .int (nI a)), (2, .int (nI b))]) hx hb d_M_shared_71 hl (k := 4) rfl (vd_inc _ 1) (by decide) rfl (fun ls hl => ?_)
                  refine lv_goto (tgt := 41) hx hb d_M_shared_74 (by decide) ?_
                  exact ih41 (i + 1) (i + 1) (by omega) (by first | (rw [vd_topP_s, ← hsh, vd_bne c_55, vd_bne c_65]; rfl) | (rw [vd_topP_s, ← hsh, c_65, if_neg (by simp), hsh]; exact ht) | (rw [vd_topP_s, ← hsh, c_55, if_neg (by simp), hsh]; exact ht)) (by omega) H locs ls HW (lv_sub hl [2, 3, 4, 1, 0] rfl)
        exact loop41 31 0 0 (by omega) (by rfl) (by omega) H locs ls HW (lv_sub hl [2, 3, 4, 1, 0] rfl)
      · refine lv_aload_n hx hb d_M_shared_13 rfl (lv_at hl 0 rfl) ?_
        refine vg_35_other CX HW lk_M_35 d_M_shared_14 ?_
        refine lv_iload_n hx hb d_M_shared_17 rfl (lv_at hl 3 rfl) ?_
        refine lv_aload_n hx hb d_M_shared_18 rfl (lv_at hl 0 rfl) ?_
        refine vg_35_marked CX HW lk_M_32 d_M_shared_19 ?_
        refine lv_iload_n hx hb d_M_shared_22 rfl (lv_at hl 3 rfl) ?_
        refine vd_zald CX HW (j := 21) (i := i) rfl (show i < 31 by omega) d_M_shared_23 (fun b9 => ?_)
        have b9 : Kl 21 i ≤ 1 := b9
        refine vd_zast CX HW (j := 22) (i := i) (x := (Kl 21 i)) rfl (show i < 31 by omega) (show Kl 21 i ≤ 1 by omega) (show Kl 21 i ≤ 1 by omega) d_M_shared_24 (fun K10 H locs eK10 HW => ?_)
        refine lv_iinc (v := (nI (i + 1))) (lv' := [(3, .int (nI (i + 1))), (0, .ref (ad 35)), (1, .int (nI a)), (2, .int (nI b))]) hx hb d_M_shared_25 hl (k := 3) rfl (vd_inc _ 1) (by decide) rfl (fun ls hl => ?_)
        refine lv_goto (tgt := 7) hx hb d_M_shared_28 (by decide) ?_
        exact ih7 (i + 1) K10 (by omega) (by exact vd_fl_step hk eK10 (by omega) (by rw [hk, vd_fl_o (by decide)])) (by omega) H locs ls HW (lv_sub hl [1, 2, 3, 0] rfl)
  exact loop7 32 0 K2 (by omega) (by rw [vd_fl_0]) (by omega) H locs ls HW (lv_sub hl [1, 2, 3, 0] rfl)
set_option maxHeartbeats 1000000 in
set_option maxRecDepth 100000 in
theorem j_mix (l : Launch) (D : va_G) (ad : Nat → Nat) (K : KT) (x : Nat) (y : Nat) (z : Nat) (w : Nat) (h1 : x ≤ 30) (h2 : y ≤ 30) (h3 : z ≤ 30) (h4 : w ≤ 1) : vd_MI l y_M_mix c_M_mix 11 (some .int) 0 0 D ad [.ref (ad 35), .int (nI x), .int (nI y), .int (nI z), .int (nI w)] K (fun (ans : Int32) (K' : KT) => K' = vd_mxl K x y z w 16 ∧ ans = (nI (vd_xn K x y z)) ∧ vd_xn K x y z ≤ 16) := by
  refine vd_entI (by decide) (Nat.le_of_ble_eq_true rfl) (lv := [(0, .ref (ad 35)), (1, .int (nI x)), (2, .int (nI y)), (3, .int (nI z)), (4, .int (nI w))]) rfl ?_
  intro p e s m args below meth cd ls Q CX hl H locs HW RET
  have hx := CX.1
  have hb := CX.2.1
  refine lv_iconst (v := (nI 0)) hx hb d_M_mix_0 (by decide) ?_
  refine lv_istore (lv' := [(5, .int (nI 0)), (0, .ref (ad 35)), (1, .int (nI x)), (2, .int (nI y)), (3, .int (nI z)), (4, .int (nI w))]) hx hb d_M_mix_1 hl (by decide) rfl (fun ls hl => ?_)
  refine lv_iconst (v := (nI 0)) hx hb d_M_mix_3 (by decide) ?_
  refine lv_istore (lv' := [(6, .int (nI 0)), (5, .int (nI 0)), (0, .ref (ad 35)), (1, .int (nI x)), (2, .int (nI y)), (3, .int (nI z)), (4, .int (nI w))]) hx hb d_M_mix_4 hl (by decide) rfl (fun ls hl => ?_)
  have loop6 : ∀ (n : Nat) (a : Nat) (i : Nat) (Kl : KT), (i ≤ 16) → (Kl = vd_mxl K x y z w i) → (a = vd_cn (fun f => vd_xcl K x y z f) i) → (16 < i + n) → ∀ (H : Heap) (locs : List Loc) (ls : Array Slot), vd_WS D ad s Kl H locs → lv_has ls 11 [(0, .ref (ad 35)), (1, .int (nI x)), (2, .int (nI y)), (3, .int (nI z)), (4, .int (nI w)), (5, .int (nI a)), (6, .int (nI i))] → W p l e (vd_R 0 0) s m args below meth cd H locs 0 0 Q (F0 m 6 ls []) := by
    intro n
    induction n with
    | zero => intro a i Kl hi hk ha hm; exfalso; omega
    | succ n ih6 =>
      intro a i Kl hi hk ha hm H locs ls HW hl
      have h14 : ∀ b, b < 528 → Kl 14 b = K 14 b := fun b hb5 => by rw [hk]; exact vd_mxl_14 K x y z w hb5 i
      refine lv_iload hx hb d_M_mix_6 (lv_at hl 6 rfl) ?_
      refine lv_bipush (v := (nI 16)) hx hb d_M_mix_8 (by decide) ?_
      refine vd_icmp_ge (tgt := 136) hx hb d_M_mix_10 (by decide) (by omega) (by omega) (fun c_10 => ?_) (fun c_10 => ?_)
      · refine lv_iload hx hb d_M_mix_136 (lv_at hl 5 rfl) ?_
        exact RET _ _ _ _ _ _ d_M_mix_138 (by have e1 : i = 16 := (by omega); subst e1; (refine ⟨hk, ?_, vd_cn_le _ _⟩; (· rw [ha]; rfl))) HW
      · have cut81 : ∀ (cl : Nat), (cl = (vd_xcl K x y z i).toNat) → ∀ (H : Heap) (locs : List Loc) (ls : Array Slot), vd_WS D ad s Kl H locs → lv_has ls 11 [(0, .ref (ad 35)), (1, .int (nI x)), (2, .int (nI y)), (3, .int (nI z)), (4, .int (nI w)), (5, .int (nI a)), (6, .int (nI i)), (7, .int (nI (Kl 14 (16 * x + i)))), (8, .int (nI (Kl 14 (16 * y + i)))), (9, .int (nI (Kl 14 (16 * z + i))))] → W p l e (vd_R 0 0) s m args below meth cd H locs 0 0 Q (F0 m 81 ls [.int (nI cl)]) := by
          intro cl hcl H locs ls HW hl
          have hc1 : cl ≤ 1 := by rw [hcl]; cases vd_xcl K x y z i <;> decide
          have i1 : i < 16 := by omega
          have b71 : Kl 14 (16 * x + i) ≤ 9999 := HW.2.2.2 14 _ (show _ < 544 by omega)
          have b72 : Kl 14 (16 * y + i) ≤ 9999 := HW.2.2.2 14 _ (show _ < 544 by omega)
          have b73 : Kl 14 (16 * z + i) ≤ 9999 := HW.2.2.2 14 _ (show _ < 544 by omega)
          refine lv_istore (lv' := [(10, .int (nI cl)), (0, .ref (ad 35)), (1, .int (nI x)), (2, .int (nI y)), (3, .int (nI z)), (4, .int (nI w)), (5, .int (nI a)), (6, .int (nI i)), (7, .int (nI (Kl 14 (16 * x + i)))), (8, .int (nI (Kl 14 (16 * y + i)))), (9, .int (nI (Kl 14 (16 * z + i))))]) hx hb d_M_mix_81 hl (by decide) rfl (fun ls hl => ?_)
          refine lv_aload_n hx hb d_M_mix_83 rfl (lv_at hl 1 rfl) ?_
          refine vg_35_content CX HW lk_M_7 d_M_mix_84 ?_
          refine lv_sipush (v := (nI 528)) hx hb d_M_mix_87 (by decide) ?_
          refine lv_iload hx hb d_M_mix_90 (lv_at hl 7 rfl) ?_
          refine vd_iadd hx hb d_M_mix_92 ?_
          refine lv_iload hx hb d_M_mix_93 (lv_at hl 8 rfl) ?_
          refine lv_iload hx hb d_M_mix_95 (lv_at hl 10 rfl) ?_
          refine vd_icmp_ne (tgt := 105) hx hb d_M_mix_97 (by decide) (by omega) (by omega) (fun c_97 => ?_) (fun c_97 => ?_)
          · refine lv_iload hx hb d_M_mix_105 (lv_at hl 8 rfl) ?_
            refine vd_iast CX HW (j := 14) (i := (528 + i)) (x := (Kl 14 (16 * x + i))) rfl (show 528 + i < 544 by omega) (show Kl 14 (16 * x + i) ≤ 9999 by omega) d_M_mix_107 (fun K1 H locs eK1 HW => ?_)
            have hv : Kl 14 (16 * x + i) = vd_xmv K x y z i := by unfold vd_xmv; rw [← h14 _ (by omega), ← h14 _ (by omega), ← h14 _ (by omega)]; first | rw [if_pos c_97] | rw [if_neg c_97]
            refine lv_iload hx hb d_M_mix_108 (lv_at hl 5 rfl) ?_
            refine vd_if_eq (tgt := 122) hx hb d_M_mix_110 (by decide) (by omega) (fun c_110 => ?_) (fun c_110 => ?_)
            · refine lv_iload hx hb d_M_mix_122 (lv_at hl 0 rfl) ?_
              refine vd_if_eq (tgt := 130) hx hb d_M_mix_124 (by decide) (by omega) (fun c_124 => ?_) (fun c_124 => ?_)
              · refine lv_iinc (v := (nI (i + 1))) (lv' := [(6, .int (nI (i + 1))), (10, .int (nI cl)), (0, .ref (ad 35)), (1, .int (nI x)), (2, .int (nI y)), (3, .int (nI z)), (4, .int (nI w)), (5, .int (nI a)), (7, .int (nI (Kl 14 (16 * x + i)))), (8, .int (nI (Kl 14 (16 * y + i)))), (9, .int (nI (Kl 14 (16 * z + i))))]) hx hb d_M_mix_130 hl (k := 7) rfl (vd_inc _ 1) (by decide) rfl (fun ls hl => ?_)
                refine lv_goto (tgt := 6) hx hb d_M_mix_133 (by decide) ?_
                exact ih6 a (i + 1) K1 (by omega) (by rw [eK1, vd_mxl_s, if_neg (by omega), ← hk, hv]) (by first | exact vd_cn_t ha (by cases hb6 : vd_xcl K x y z i; (· rw [hb6] at hcl; exact absurd hcl c_124); (· rfl)) | exact vd_cn_f ha (by cases hb6 : vd_xcl K x y z i; (· rfl); (· rw [hb6] at hcl; rw [c_124] at hcl; exact absurd hcl (by decide)))) (by omega) H locs ls HW (lv_sub hl [2, 3, 4, 5, 6, 7, 0] rfl)
              · refine lv_iinc (v := (nI (a + 1))) (lv' := [(5, .int (nI (a + 1))), (10, .int (nI cl)), (0, .ref (ad 35)), (1, .int (nI x)), (2, .int (nI y)), (3, .int (nI z)), (4, .int (nI w)), (6, .int (nI i)), (7, .int (nI (Kl 14 (16 * x + i)))), (8, .int (nI (Kl 14 (16 * y + i)))), (9, .int (nI (Kl 14 (16 * z + i))))]) hx hb d_M_mix_127 hl (k := 6) rfl (vd_inc _ 1) (by decide) rfl (fun ls hl => ?_)
                refine lv_iinc (v := (nI (i + 1))) (lv' := [(6, .int (nI (i + 1))), (5, .int (nI (a + 1))), (10, .int (nI cl)), (0, .ref (ad 35)), (1, .int (nI x)), (2, .int (nI y)), (3, .int (nI z)), (4, .int (nI w)), (7, .int (nI (Kl 14 (16 * x + i)))), (8, .int (nI (Kl 14 (16 * y + i)))), (9, .int (nI (Kl 14 (16 * z + i))))]) hx hb d_M_mix_130 hl (k := 7) rfl (vd_inc _ 1) (by decide) rfl (fun ls hl => ?_)
                refine lv_goto (tgt := 6) hx hb d_M_mix_133 (by decide) ?_
                exact ih6 (a + 1) (i + 1) K1 (by omega) (by rw [eK1, vd_mxl_s, if_neg (by omega), ← hk, hv]) (by first | exact vd_cn_t ha (by cases hb6 : vd_xcl K x y z i; (· rw [hb6] at hcl; exact absurd hcl c_124); (· rfl)) | exact vd_cn_f ha (by cases hb6 : vd_xcl K x y z i; (· rfl); (· rw [hb6] at hcl; rw [c_124] at hcl; exact absurd hcl (by decide)))) (by omega) H locs ls HW (lv_sub hl [3, 4, 5, 6, 7, 1, 0] rfl)
            · refine lv_aload_n hx hb d_M_mix_113 rfl (lv_at hl 1 rfl) ?_
              refine vg_35_clashing CX HW lk_M_26 d_M_mix_114 ?_
              refine lv_iload hx hb d_M_mix_117 (lv_at hl 7 rfl) ?_
              refine lv_iload hx hb d_M_mix_119 (lv_at hl 0 rfl) ?_
              refine vd_zast CX HW (j := 19) (i := i) (x := cl) rfl (show i < 16 by omega) (show cl ≤ 1 by omega) (show cl ≤ 1 by omega) d_M_mix_121 (fun K2 H locs eK2 HW => ?_)
              refine lv_iload hx hb d_M_mix_122 (lv_at hl 0 rfl) ?_
              refine vd_if_eq (tgt := 130) hx hb d_M_mix_124 (by decide) (by omega) (fun c_124 => ?_) (fun c_124 => ?_)
              · refine lv_iinc (v := (nI (i + 1))) (lv' := [(6, .int (nI (i + 1))), (10, .int (nI cl)), (0, .ref (ad 35)), (1, .int (nI x)), (2, .int (nI y)), (3, .int (nI z)), (4, .int (nI w)), (5, .int (nI a)), (7, .int (nI (Kl 14 (16 * x + i)))), (8, .int (nI (Kl 14 (16 * y + i)))), (9, .int (nI (Kl 14 (16 * z + i))))]) hx hb d_M_mix_130 hl (k := 7) rfl (vd_inc _ 1) (by decide) rfl (fun ls hl => ?_)
                refine lv_goto (tgt := 6) hx hb d_M_mix_133 (by decide) ?_
                exact ih6 a (i + 1) K2 (by omega) (by rw [eK2, eK1, vd_mxl_s, if_pos c_110, ← hk, hv, hcl]) (by first | exact vd_cn_t ha (by cases hb6 : vd_xcl K x y z i; (· rw [hb6] at hcl; exact absurd hcl c_124); (· rfl)) | exact vd_cn_f ha (by cases hb6 : vd_xcl K x y z i; (· rfl); (· rw [hb6] at hcl; rw [c_124] at hcl; exact absurd hcl (by decide)))) (by omega) H locs ls HW (lv_sub hl [2, 3, 4, 5, 6, 7, 0] rfl)
              · refine lv_iinc (v := (nI (a + 1))) (lv' := [(5, .int (nI (a + 1))), (10, .int (nI cl)), (0, .ref (ad 35)), (1, .int (nI x)), (2, .int (nI y)), (3, .int (nI z)), (4, .int (nI w)), (6, .int (nI i)), (7, .int (nI (Kl 14 (16 * x + i)))), (8, .int (nI (Kl 14 (16 * y + i)))), (9, .int (nI (Kl 14 (16 * z + i))))]) hx hb d_M_mix_127 hl (k := 6) rfl (vd_inc _ 1) (by decide) rfl (fun ls hl => ?_)
                refine lv_iinc (v := (nI (i + 1))) (lv' := [(6, .int (nI (i + 1))), (5, .int (nI (a + 1))), (10, .int (nI cl)), (0, .ref (ad 35)), (1, .int (nI x)), (2, .int (nI y)), (3, .int (nI z)), (4, .int (nI w)), (7, .int (nI (Kl 14 (16 * x + i)))), (8, .int (nI (Kl 14 (16 * y + i)))), (9, .int (nI (Kl 14 (16 * z + i))))]) hx hb d_M_mix_130 hl (k := 7) rfl (vd_inc _ 1) (by decide) rfl (fun ls hl => ?_)
                refine lv_goto (tgt := 6) hx hb d_M_mix_133 (by decide) ?_
                exact ih6 (a + 1) (i + 1) K2 (by omega) (by rw [eK2, eK1, vd_mxl_s, if_pos c_110, ← hk, hv, hcl]) (by first | exact vd_cn_t ha (by cases hb6 : vd_xcl K x y z i; (· rw [hb6] at hcl; exact absurd hcl c_124); (· rfl)) | exact vd_cn_f ha (by cases hb6 : vd_xcl K x y z i; (· rfl); (· rw [hb6] at hcl; rw [c_124] at hcl; exact absurd hcl (by decide)))) (by omega) H locs ls HW (lv_sub hl [3, 4, 5, 6, 7, 1, 0] rfl)
          · refine lv_iload hx hb d_M_mix_100 (lv_at hl 9 rfl) ?_
            refine lv_goto (tgt := 107) hx hb d_M_mix_102 (by decide) ?_
            refine vd_iast CX HW (j := 14) (i := (528 + i)) (x := (Kl 14 (16 * y + i))) rfl (show 528 + i < 544 by omega) (show Kl 14 (16 * y + i) ≤ 9999 by omega) d_M_mix_107 (fun K3 H locs eK3 HW => ?_)
            have hv : Kl 14 (16 * y + i) = vd_xmv K x y z i := by unfold vd_xmv; rw [← h14 _ (by omega), ← h14 _ (by omega), ← h14 _ (by omega)]; first | rw [if_pos c_97] | rw [if_neg c_97]
            refine lv_iload hx hb d_M_mix_108 (lv_at hl 5 rfl) ?_
            refine vd_if_eq (tgt := 122) hx hb d_M_mix_110 (by decide) (by omega) (fun c_110 => ?_) (fun c_110 => ?_)
            · refine lv_iload hx hb d_M_mix_122 (lv_at hl 0 rfl) ?_
              refine vd_if_eq (tgt := 130) hx hb d_M_mix_124 (by decide) (by omega) (fun c_124 => ?_) (fun c_124 => ?_)
              · refine lv_iinc (v := (nI (i + 1))) (lv' := [(6, .int (nI (i + 1))), (10, .int (nI cl)), (0, .ref (ad 35)), (1, .int (nI x)), (2, .int (nI y)), (3, .int (nI z)), (4, .int (nI w)), (5, .int (nI a)), (7, .int (nI (Kl 14 (16 * x + i)))), (8, .int (nI (Kl 14 (16 * y + i)))), (9, .int (nI (Kl 14 (16 * z + i))))]) hx hb d_M_mix_130 hl (k := 7) rfl (vd_inc _ 1) (by decide) rfl (fun ls hl => ?_)
                refine lv_goto (tgt := 6) hx hb d_M_mix_133 (by decide) ?_
                exact ih6 a (i + 1) K3 (by omega) (by rw [eK3, vd_mxl_s, if_neg (by omega), ← hk, hv]) (by first | exact vd_cn_t ha (by cases hb6 : vd_xcl K x y z i; (· rw [hb6] at hcl; exact absurd hcl c_124); (· rfl)) | exact vd_cn_f ha (by cases hb6 : vd_xcl K x y z i; (· rfl); (· rw [hb6] at hcl; rw [c_124] at hcl; exact absurd hcl (by decide)))) (by omega) H locs ls HW (lv_sub hl [2, 3, 4, 5, 6, 7, 0] rfl)
              · refine lv_iinc (v := (nI (a + 1))) (lv' := [(5, .int (nI (a + 1))), (10, .int (nI cl)), (0, .ref (ad 35)), (1, .int (nI x)), (2, .int (nI y)), (3, .int (nI z)), (4, .int (nI w)), (6, .int (nI i)), (7, .int (nI (Kl 14 (16 * x + i)))), (8, .int (nI (Kl 14 (16 * y + i)))), (9, .int (nI (Kl 14 (16 * z + i))))]) hx hb d_M_mix_127 hl (k := 6) rfl (vd_inc _ 1) (by decide) rfl (fun ls hl => ?_)
                refine lv_iinc (v := (nI (i + 1))) (lv' := [(6, .int (nI (i + 1))), (5, .int (nI (a + 1))), (10, .int (nI cl)), (0, .ref (ad 35)), (1, .int (nI x)), (2, .int (nI y)), (3, .int (nI z)), (4, .int (nI w)), (7, .int (nI (Kl 14 (16 * x + i)))), (8, .int (nI (Kl 14 (16 * y + i)))), (9, .int (nI (Kl 14 (16 * z + i))))]) hx hb d_M_mix_130 hl (k := 7) rfl (vd_inc _ 1) (by decide) rfl (fun ls hl => ?_)
                refine lv_goto (tgt := 6) hx hb d_M_mix_133 (by decide) ?_
                exact ih6 (a + 1) (i + 1) K3 (by omega) (by rw [eK3, vd_mxl_s, if_neg (by omega), ← hk, hv]) (by first | exact vd_cn_t ha (by cases hb6 : vd_xcl K x y z i; (· rw [hb6] at hcl; exact absurd hcl c_124); (· rfl)) | exact vd_cn_f ha (by cases hb6 : vd_xcl K x y z i; (· rfl); (· rw [hb6] at hcl; rw [c_124] at hcl; exact absurd hcl (by decide)))) (by omega) H locs ls HW (lv_sub hl [3, 4, 5, 6, 7, 1, 0] rfl)
            · refine lv_aload_n hx hb d_M_mix_113 rfl (lv_at hl 1 rfl) ?_
              refine vg_35_clashing CX HW lk_M_26 d_M_mix_114 ?_
              refine lv_iload hx hb d_M_mix_117 (lv_at hl 7 rfl) ?_
              refine lv_iload hx hb d_M_mix_119 (lv_at hl 0 rfl) ?_
              refine vd_zast CX HW (j := 19) (i := i) (x := cl) rfl (show i < 16 by omega) (show cl ≤ 1 by omega) (show cl ≤ 1 by omega) d_M_mix_121 (fun K4 H locs eK4 HW => ?_)
              refine lv_iload hx hb d_M_mix_122 (lv_at hl 0 rfl) ?_
              refine vd_if_eq (tgt := 130) hx hb d_M_mix_124 (by decide) (by omega) (fun c_124 => ?_) (fun c_124 => ?_)
              · refine lv_iinc (v := (nI (i + 1))) (lv' := [(6, .int (nI (i + 1))), (10, .int (nI cl)), (0, .ref (ad 35)), (1, .int (nI x)), (2, .int (nI y)), (3, .int (nI z)), (4, .int (nI w)), (5, .int (nI a)), (7, .int (nI (Kl 14 (16 * x + i)))), (8, .int (nI (Kl 14 (16 * y + i)))), (9, .int (nI (Kl 14 (16 * z + i))))]) hx hb d_M_mix_130 hl (k := 7) rfl (vd_inc _ 1) (by decide) rfl (fun ls hl => ?_)
                refine lv_goto (tgt := 6) hx hb d_M_mix_133 (by decide) ?_
                exact ih6 a (i + 1) K4 (by omega) (by rw [eK4, eK3, vd_mxl_s, if_pos c_110, ← hk, hv, hcl]) (by first | exact vd_cn_t ha (by cases hb6 : vd_xcl K x y z i; (· rw [hb6] at hcl; exact absurd hcl c_124); (· rfl)) | exact vd_cn_f ha (by cases hb6 : vd_xcl K x y z i; (· rfl); (· rw [hb6] at hcl; rw [c_124] at hcl; exact absurd hcl (by decide)))) (by omega) H locs ls HW (lv_sub hl [2, 3, 4, 5, 6, 7, 0] rfl)
              · refine lv_iinc (v := (nI (a + 1))) (lv' := [(5, .int (nI (a + 1))), (10, .int (nI cl)), (0, .ref (ad 35)), (1, .int (nI x)), (2, .int (nI y)), (3, .int (nI z)), (4, .int (nI w)), (6, .int (nI i)), (7, .int (nI (Kl 14 (16 * x + i)))), (8, .int (nI (Kl 14 (16 * y + i)))), (9, .int (nI (Kl 14 (16 * z + i))))]) hx hb d_M_mix_127 hl (k := 6) rfl (vd_inc _ 1) (by decide) rfl (fun ls hl => ?_)
                refine lv_iinc (v := (nI (i + 1))) (lv' := [(6, .int (nI (i + 1))), (5, .int (nI (a + 1))), (10, .int (nI cl)), (0, .ref (ad 35)), (1, .int (nI x)), (2, .int (nI y)), (3, .int (nI z)), (4, .int (nI w)), (7, .int (nI (Kl 14 (16 * x + i)))), (8, .int (nI (Kl 14 (16 * y + i)))), (9, .int (nI (Kl 14 (16 * z + i))))]) hx hb d_M_mix_130 hl (k := 7) rfl (vd_inc _ 1) (by decide) rfl (fun ls hl => ?_)
                refine lv_goto (tgt := 6) hx hb d_M_mix_133 (by decide) ?_
                exact ih6 (a + 1) (i + 1) K4 (by omega) (by rw [eK4, eK3, vd_mxl_s, if_pos c_110, ← hk, hv, hcl]) (by first | exact vd_cn_t ha (by cases hb6 : vd_xcl K x y z i; (· rw [hb6] at hcl; exact absurd hcl c_124); (· rfl)) | exact vd_cn_f ha (by cases hb6 : vd_xcl K x y z i; (· rfl); (· rw [hb6] at hcl; rw [c_124] at hcl; exact absurd hcl (by decide)))) (by omega) H locs ls HW (lv_sub hl [3, 4, 5, 6, 7, 1, 0] rfl)
        refine lv_aload_n hx hb d_M_mix_13 rfl (lv_at hl 0 rfl) ?_
        refine vg_35_content CX HW lk_M_7 d_M_mix_14 ?_
        refine lv_bipush (v := (nI 16)) hx hb d_M_mix_17 (by decide) ?_
        refine lv_iload_n hx hb d_M_mix_19 rfl (lv_at hl 1 rfl) ?_
        refine vd_imul hx hb d_M_mix_20 ?_
        refine lv_iload hx hb d_M_mix_21 (lv_at hl 6 rfl) ?_
        refine vd_iadd hx hb d_M_mix_23 ?_
        refine vd_iald CX HW (j := 14) (i := ((16 * x) + i)) rfl (show (16 * x) + i < 544 by omega) d_M_mix_24 (fun b5 => ?_)
        have b5 : Kl 14 ((16 * x) + i) ≤ 9999 := b5
        refine lv_istore (lv' := [(7, .int (nI (Kl 14 ((16 * x) + i)))), (0, .ref (ad 35)), (1, .int (nI x)), (2, .int (nI y)), (3, .int (nI z)), (4, .int (nI w)), (5, .int (nI a)), (6, .int (nI i))]) hx hb d_M_mix_25 hl (by decide) rfl (fun ls hl => ?_)
        refine lv_aload_n hx hb d_M_mix_27 rfl (lv_at hl 1 rfl) ?_
        refine vg_35_content CX HW lk_M_7 d_M_mix_28 ?_
        refine lv_bipush (v := (nI 16)) hx hb d_M_mix_31 (by decide) ?_
        refine lv_iload_n hx hb d_M_mix_33 rfl (lv_at hl 3 rfl) ?_
        refine vd_imul hx hb d_M_mix_34 ?_
        refine lv_iload hx hb d_M_mix_35 (lv_at hl 7 rfl) ?_
        refine vd_iadd hx hb d_M_mix_37 ?_
        refine vd_iald CX HW (j := 14) (i := ((16 * y) + i)) rfl (show (16 * y) + i < 544 by omega) d_M_mix_38 (fun b6 => ?_)
        have b6 : Kl 14 ((16 * y) + i) ≤ 9999 := b6
        refine lv_istore (lv' := [(8, .int (nI (Kl 14 ((16 * y) + i)))), (7, .int (nI (Kl 14 ((16 * x) + i)))), (0, .ref (ad 35)), (1, .int (nI x)), (2, .int (nI y)), (3, .int (nI z)), (4, .int (nI w)), (5, .int (nI a)), (6, .int (nI i))]) hx hb d_M_mix_39 hl (by decide) rfl (fun ls hl => ?_)
        refine lv_aload_n hx hb d_M_mix_41 rfl (lv_at hl 2 rfl) ?_
        refine vg_35_content CX HW lk_M_7 d_M_mix_42 ?_
        refine lv_bipush (v := (nI 16)) hx hb d_M_mix_45 (by decide) ?_
        refine lv_iload_n hx hb d_M_mix_47 rfl (lv_at hl 5 rfl) ?_
        refine vd_imul hx hb d_M_mix_48 ?_
        refine lv_iload hx hb d_M_mix_49 (lv_at hl 8 rfl) ?_
        refine vd_iadd hx hb d_M_mix_51 ?_
        refine vd_iald CX HW (j := 14) (i := ((16 * z) + i)) rfl (show (16 * z) + i < 544 by omega) d_M_mix_52 (fun b7 => ?_)
        have b7 : Kl 14 ((16 * z) + i) ≤ 9999 := b7
        refine lv_istore (lv' := [(9, .int (nI (Kl 14 ((16 * z) + i)))), (8, .int (nI (Kl 14 ((16 * y) + i)))), (7, .int (nI (Kl 14 ((16 * x) + i)))), (0, .ref (ad 35)), (1, .int (nI x)), (2, .int (nI y)), (3, .int (nI z)), (4, .int (nI w)), (5, .int (nI a)), (6, .int (nI i))]) hx hb d_M_mix_53 hl (by decide) rfl (fun ls hl => ?_)
        refine lv_iload hx hb d_M_mix_55 (lv_at hl 2 rfl) ?_
        refine lv_iload hx hb d_M_mix_57 (lv_at hl 1 rfl) ?_
        refine vd_icmp_eq (tgt := 80) hx hb d_M_mix_59 (by decide) (by omega) (by omega) (fun c_59 => ?_) (fun c_59 => ?_)
        · refine lv_iconst (v := (nI 0)) hx hb d_M_mix_80 (by decide) ?_
          exact cut81 0 (by rw [show vd_xcl K x y z i = ((Kl 14 (16 * x + i) != Kl 14 (16 * y + i)) && ((Kl 14 (16 * x + i) != Kl 14 (16 * z + i)) && (Kl 14 (16 * y + i) != Kl 14 (16 * z + i)))) by rw [h14 _ (by omega), h14 _ (by omega), h14 _ (by omega)]; rfl]; first | (rw [vd_bn c_59, vd_bn c_66, vd_bn c_73]; rfl) | (rw [vd_be c_73, Bool.and_false, Bool.and_false]; rfl) | (rw [vd_be c_66, Bool.false_and, Bool.and_false]; rfl) | (rw [vd_be c_59, Bool.false_and]; rfl)) H locs ls HW (lv_sub hl [3, 4, 5, 6, 7, 8, 9, 2, 1, 0] rfl)
        · refine lv_iload hx hb d_M_mix_62 (lv_at hl 2 rfl) ?_
          refine lv_iload hx hb d_M_mix_64 (lv_at hl 0 rfl) ?_
          refine vd_icmp_eq (tgt := 80) hx hb d_M_mix_66 (by decide) (by omega) (by omega) (fun c_66 => ?_) (fun c_66 => ?_)
          · refine lv_iconst (v := (nI 0)) hx hb d_M_mix_80 (by decide) ?_
            exact cut81 0 (by rw [show vd_xcl K x y z i = ((Kl 14 (16 * x + i) != Kl 14 (16 * y + i)) && ((Kl 14 (16 * x + i) != Kl 14 (16 * z + i)) && (Kl 14 (16 * y + i) != Kl 14 (16 * z + i)))) by rw [h14 _ (by omega), h14 _ (by omega), h14 _ (by omega)]; rfl]; first | (rw [vd_bn c_59, vd_bn c_66, vd_bn c_73]; rfl) | (rw [vd_be c_73, Bool.and_false, Bool.and_false]; rfl) | (rw [vd_be c_66, Bool.false_and, Bool.and_false]; rfl) | (rw [vd_be c_59, Bool.false_and]; rfl)) H locs ls HW (lv_sub hl [3, 4, 5, 6, 7, 8, 9, 2, 1, 0] rfl)
          · refine lv_iload hx hb d_M_mix_69 (lv_at hl 1 rfl) ?_
            refine lv_iload hx hb d_M_mix_71 (lv_at hl 0 rfl) ?_
            refine vd_icmp_eq (tgt := 80) hx hb d_M_mix_73 (by decide) (by omega) (by omega) (fun c_73 => ?_) (fun c_73 => ?_)
            · refine lv_iconst (v := (nI 0)) hx hb d_M_mix_80 (by decide) ?_
              exact cut81 0 (by rw [show vd_xcl K x y z i = ((Kl 14 (16 * x + i) != Kl 14 (16 * y + i)) && ((Kl 14 (16 * x + i) != Kl 14 (16 * z + i)) && (Kl 14 (16 * y + i) != Kl 14 (16 * z + i)))) by rw [h14 _ (by omega), h14 _ (by omega), h14 _ (by omega)]; rfl]; first | (rw [vd_bn c_59, vd_bn c_66, vd_bn c_73]; rfl) | (rw [vd_be c_73, Bool.and_false, Bool.and_false]; rfl) | (rw [vd_be c_66, Bool.false_and, Bool.and_false]; rfl) | (rw [vd_be c_59, Bool.false_and]; rfl)) H locs ls HW (lv_sub hl [3, 4, 5, 6, 7, 8, 9, 2, 1, 0] rfl)
            · refine lv_iconst (v := (nI 1)) hx hb d_M_mix_76 (by decide) ?_
              refine lv_goto (tgt := 81) hx hb d_M_mix_77 (by decide) ?_
              exact cut81 1 (by rw [show vd_xcl K x y z i = ((Kl 14 (16 * x + i) != Kl 14 (16 * y + i)) && ((Kl 14 (16 * x + i) != Kl 14 (16 * z + i)) && (Kl 14 (16 * y + i) != Kl 14 (16 * z + i)))) by rw [h14 _ (by omega), h14 _ (by omega), h14 _ (by omega)]; rfl]; first | (rw [vd_bn c_59, vd_bn c_66, vd_bn c_73]; rfl) | (rw [vd_be c_73, Bool.and_false, Bool.and_false]; rfl) | (rw [vd_be c_66, Bool.false_and, Bool.and_false]; rfl) | (rw [vd_be c_59, Bool.false_and]; rfl)) H locs ls HW (lv_sub hl [3, 4, 5, 6, 7, 8, 9, 2, 1, 0] rfl)
  exact loop6 17 0 0 K (by omega) (by rfl) (by rfl) (by omega) H locs ls HW (lv_sub hl [2, 3, 4, 5, 6, 1, 0] rfl)
