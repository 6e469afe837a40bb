set_option maxHeartbeats 1000000 in
set_option maxRecDepth 100000 in
theorem j_merge (l : Launch) (D : va_G) (ad : Nat → Nat) (K : KT) (x : Int32)  : vd_MI l y_M_merge c_M_merge 5 (some .int) 2 47 D ad [.ref (ad 35), .int x] K (fun (ans : Int32) (K' : KT) => K' = vd_meKM K x ∧ ans = (vd_meRM K x)) := by
  refine vd_entI (by decide) (Nat.le_of_ble_eq_true rfl) (lv := [(0, .ref (ad 35)), (1, .int x)]) rfl ?_
  intro p e s m args below meth cd ls Q CX hl H locs HW RET
  have hx := CX.1
  have hb := CX.2.1
  refine lv_iload_n hx hb d_M_merge_0 rfl (lv_at hl 1 rfl) ?_
  refine lv_iconst (v := (nI 0)) hx hb d_M_merge_1 (by decide) ?_
  refine lv_iconst (v := (nI 5)) hx hb d_M_merge_2 (by decide) ?_
  refine vd_callSi (As := [.int x, .int (nI 0), .int (nI 5)]) (rest := []) CX HW (j_in l D ad K x 0 5 (by omega) (by omega)) mo_M_in wt_M_in ml_M_42 rfl rfl ⟨Nat.le_of_ble_eq_true rfl, Nat.le_of_ble_eq_true rfl⟩ hl.1 (Nat.le_of_ble_eq_true rfl) d_M_merge_3 ⟨Nat.zero_le _, Nat.zero_le _⟩ (fun r1 K2 H locs q3 HW => ?_)
  obtain ⟨rfl, rfl⟩ := q3
  refine vd_ifb_eq (tgt := 32) hx hb d_M_merge_6 (by decide) (fun c_6 => ?_) (fun c_6 => ?_)
  · refine lv_iconst (v := (-1 : Int32)) hx hb d_M_merge_32 (by decide) ?_
    exact RET _ _ _ _ _ _ d_M_merge_33 (by first | (have h90 : vd_thM K (nI f) = false ∨ vd_hereM K = 0 ∨ K 49 0 ≠ 0 := (by exact Or.inr (Or.inr c_29)); unfold vd_meKM vd_meRM; rw [if_pos h90, if_pos h90]; exact ⟨rfl, rfl⟩) | (have h90 : vd_thM K (nI f) = false ∨ vd_hereM K = 0 ∨ K 49 0 ≠ 0 := (by exact Or.inr (Or.inl c_22)); unfold vd_meKM vd_meRM; rw [if_pos h90, if_pos h90]; exact ⟨rfl, rfl⟩) | (have h90 : vd_thM K (nI f) = false ∨ vd_hereM K = 0 ∨ K 49 0 ≠ 0 := (by refine Or.inl ?_; unfold vd_thM; rw [c_6, nI_clamp (show f < 2 ^ 31 by omega), c_15]; rfl); unfold vd_meKM vd_meRM; rw [if_pos h90, if_pos h90]; exact ⟨rfl, rfl⟩) | (have h90 : vd_thM K x = false ∨ vd_hereM K = 0 ∨ K 49 0 ≠ 0 := (by refine Or.inl ?_; unfold vd_thM; rw [c_6]; rfl); unfold vd_meKM vd_meRM; rw [if_pos h90, if_pos h90]; exact ⟨rfl, rfl⟩)) HW
  · obtain ⟨f, hf1, hf2, rfl⟩ := vd_in_t c_6
    refine lv_aload_n hx hb d_M_merge_9 rfl (lv_at hl 0 rfl) ?_
    refine vg_35_branch CX HW lk_M_23 d_M_merge_10 ?_
    refine lv_iload_n hx hb d_M_merge_13 rfl (lv_at hl 1 rfl) ?_
    refine vd_iald CX HW (j := 18) (i := f) rfl (show f < 6 by omega) d_M_merge_14 (fun b4 => ?_)
    have b4 : K 18 f ≤ 30 := b4
    refine vd_if_eq (tgt := 32) hx hb d_M_merge_15 (by decide) (by omega) (fun c_15 => ?_) (fun c_15 => ?_)
    · refine lv_iconst (v := (-1 : Int32)) hx hb d_M_merge_32 (by decide) ?_
      exact RET _ _ _ _ _ _ d_M_merge_33 (by first | (have h90 : vd_thM K (nI f) = false ∨ vd_hereM K = 0 ∨ K 49 0 ≠ 0 := (by exact Or.inr (Or.inr c_29)); unfold vd_meKM vd_meRM; rw [if_pos h90, if_pos h90]; exact ⟨rfl, rfl⟩) | (have h90 : vd_thM K (nI f) = false ∨ vd_hereM K = 0 ∨ K 49 0 ≠ 0 := (by exact Or.inr (Or.inl c_22)); unfold vd_meKM vd_meRM; rw [if_pos h90, if_pos h90]; exact ⟨rfl, rfl⟩) | (have h90 : vd_thM K (nI f) = false ∨ vd_hereM K = 0 ∨ K 49 0 ≠ 0 := (by refine Or.inl ?_; unfold vd_thM; rw [c_6, nI_clamp (show f < 2 ^ 31 by omega), c_15]; rfl); unfold vd_meKM vd_meRM; rw [if_pos h90, if_pos h90]; exact ⟨rfl, rfl⟩) | (have h90 : vd_thM K x = false ∨ vd_hereM K = 0 ∨ K 49 0 ≠ 0 := (by refine Or.inl ?_; unfold vd_thM; rw [c_6]; rfl); unfold vd_meKM vd_meRM; rw [if_pos h90, if_pos h90]; exact ⟨rfl, rfl⟩)) HW
    · refine lv_aload_n hx hb d_M_merge_18 rfl (lv_at hl 0 rfl) ?_
      refine vd_callVi (As := []) (rest := []) CX HW (j_here l D ad K) mo_M_here wi_M_here ws_M_here (vr_35 CX HW) ml_M_54 rfl rfl ⟨Nat.le_of_ble_eq_true rfl, Nat.le_of_ble_eq_true rfl⟩ hl.1 (Nat.le_of_ble_eq_true rfl) d_M_merge_19 ⟨Nat.zero_le _, Nat.zero_le _⟩ (fun r5 K6 H locs q7 HW => ?_)
      obtain ⟨rfl, rfl, b8⟩ := q7
      have b8 : vd_hereM K ≤ 30 := b8
      refine vd_if_eq (tgt := 32) hx hb d_M_merge_22 (by decide) (by omega) (fun c_22 => ?_) (fun c_22 => ?_)
      · refine lv_iconst (v := (-1 : Int32)) hx hb d_M_merge_32 (by decide) ?_
        exact RET _ _ _ _ _ _ d_M_merge_33 (by first | (have h90 : vd_thM K (nI f) = false ∨ vd_hereM K = 0 ∨ K 49 0 ≠ 0 := (by exact Or.inr (Or.inr c_29)); unfold vd_meKM vd_meRM; rw [if_pos h90, if_pos h90]; exact ⟨rfl, rfl⟩) | (have h90 : vd_thM K (nI f) = false ∨ vd_hereM K = 0 ∨ K 49 0 ≠ 0 := (by exact Or.inr (Or.inl c_22)); unfold vd_meKM vd_meRM; rw [if_pos h90, if_pos h90]; exact ⟨rfl, rfl⟩) | (have h90 : vd_thM K (nI f) = false ∨ vd_hereM K = 0 ∨ K 49 0 ≠ 0 := (by refine Or.inl ?_; unfold vd_thM; rw [c_6, nI_clamp (show f < 2 ^ 31 by omega), c_15]; rfl); unfold vd_meKM vd_meRM; rw [if_pos h90, if_pos h90]; exact ⟨rfl, rfl⟩) | (have h90 : vd_thM K x = false ∨ vd_hereM K = 0 ∨ K 49 0 ≠ 0 := (by refine Or.inl ?_; unfold vd_thM; rw [c_6]; rfl); unfold vd_meKM vd_meRM; rw [if_pos h90, if_pos h90]; exact ⟨rfl, rfl⟩)) HW
      · refine lv_aload_n hx hb d_M_merge_25 rfl (lv_at hl 0 rfl) ?_
        refine vg_35_merging CX HW lk_M_64 d_M_merge_26 (fun b9 => ?_)
        have b9 : K 49 0 ≤ 30 := b9
        refine vd_if_le (tgt := 34) hx hb d_M_merge_29 (by decide) (by omega) (fun c_29 => ?_) (fun c_29 => ?_)
        · have c_t : vd_thM K (nI f) = true := by unfold vd_thM; rw [c_6, nI_clamp (show f < 2 ^ 31 by omega), vd_bne c_15]; rfl
          refine lv_aload_n hx hb d_M_merge_34 rfl (lv_at hl 0 rfl) ?_
          refine vd_callVi (As := []) (rest := []) CX HW (j_tidy l D ad K) mo_M_tidy wi_M_tidy ws_M_tidy (vr_35 CX HW) ml_M_71 rfl rfl ⟨Nat.le_of_ble_eq_true rfl, Nat.le_of_ble_eq_true rfl⟩ hl.1 (Nat.le_of_ble_eq_true rfl) d_M_merge_35 ⟨Nat.zero_le _, Nat.zero_le _⟩ (fun r10 K11 H locs q12 HW => ?_)
          obtain ⟨rfl, rfl⟩ := q12
          refine vd_ifb_ne (tgt := 44) hx hb d_M_merge_38 (by decide) (fun c_38 => ?_) (fun c_38 => ?_)
          · refine lv_aload_n hx hb d_M_merge_44 rfl (lv_at hl 0 rfl) ?_
            refine vg_35_branch CX HW lk_M_23 d_M_merge_45 ?_
            refine lv_iload_n hx hb d_M_merge_48 rfl (lv_at hl 1 rfl) ?_
            refine vd_iald CX HW (j := 18) (i := f) rfl (show f < 6 by omega) d_M_merge_49 (fun b13 => ?_)
            have b13 : K 18 f ≤ 30 := b13
            refine lv_istore_n (lv' := [(2, .int (nI (K 18 f))), (0, .ref (ad 35)), (1, .int (nI f))]) hx hb d_M_merge_50 rfl hl (by decide) rfl (fun ls hl => ?_)
            refine lv_aload_n hx hb d_M_merge_51 rfl (lv_at hl 1 rfl) ?_
            refine lv_aload_n hx hb d_M_merge_52 rfl (lv_at hl 1 rfl) ?_
            refine vd_callVi (As := []) (rest := [.ref (ad 35)]) CX HW (j_here l D ad K) mo_M_here wi_M_here ws_M_here (vr_35 CX HW) ml_M_54 rfl rfl ⟨Nat.le_of_ble_eq_true rfl, Nat.le_of_ble_eq_true rfl⟩ hl.1 (Nat.le_of_ble_eq_true rfl) d_M_merge_53 ⟨Nat.zero_le _, Nat.zero_le _⟩ (fun r14 K15 H locs q16 HW => ?_)
            obtain ⟨rfl, rfl, b17⟩ := q16
            have b17 : vd_hereM K ≤ 30 := b17
            refine lv_iload_n hx hb d_M_merge_56 rfl (lv_at hl 0 rfl) ?_
            refine vd_callVi (As := [.int (nI (vd_hereM K)), .int (nI (K 18 f))]) (rest := []) CX HW (j_shared l D ad K (vd_hereM K) (K 18 f) (by omega) (by omega)) mo_M_shared wi_M_shared ws_M_shared (vr_35 CX HW) ml_M_82 rfl rfl ⟨Nat.le_of_ble_eq_true rfl, Nat.le_of_ble_eq_true rfl⟩ hl.1 (Nat.le_of_ble_eq_true rfl) d_M_merge_57 ⟨Nat.zero_le _, Nat.zero_le _⟩ (fun r18 K19 H locs q20 HW => ?_)
            obtain ⟨eK19, rfl, b21⟩ := q20
            have b21 : vd_shr K (vd_hereM K) (K 18 f) ≤ 30 := b21
            refine lv_istore_n (lv' := [(3, .int (nI (vd_shr K (vd_hereM K) (K 18 f)))), (2, .int (nI (K 18 f))), (0, .ref (ad 35)), (1, .int (nI f))]) hx hb d_M_merge_60 rfl hl (by decide) rfl (fun ls hl => ?_)
            have hs1 : K19 = vd_shK K (vd_hereM K) (K 18 f) := eK19
            have f47 : K19 47 0 = K 47 0 := by rw [hs1, vd_shK_o _ _ _ (by decide) (by decide)]
            refine lv_iload_n hx hb d_M_merge_61 rfl (lv_at hl 0 rfl) ?_
            refine lv_iload_n hx hb d_M_merge_62 rfl (lv_at hl 1 rfl) ?_
            refine vd_icmp_ne (tgt := 68) hx hb d_M_merge_63 (by decide) (by omega) (by omega) (fun c_63 => ?_) (fun c_63 => ?_)
            · refine lv_iload_n hx hb d_M_merge_68 rfl (lv_at hl 0 rfl) ?_
              refine lv_aload_n hx hb d_M_merge_69 rfl (lv_at hl 2 rfl) ?_
              refine vd_callVi (As := []) (rest := [.int (nI (vd_shr K (vd_hereM K) (K 18 f)))]) CX HW (j_here l D ad K19) mo_M_here wi_M_here ws_M_here (vr_35 CX HW) ml_M_54 rfl rfl ⟨Nat.le_of_ble_eq_true rfl, Nat.le_of_ble_eq_true rfl⟩ hl.1 (Nat.le_of_ble_eq_true rfl) d_M_merge_70 ⟨Nat.zero_le _, Nat.zero_le _⟩ (fun r22 K23 H locs q24 HW => ?_)
              obtain ⟨rfl, rfl, b25⟩ := q24
              have b25 : vd_hereM K19 ≤ 30 := b25
              refine vd_icmp_ne (tgt := 93) hx hb d_M_merge_73 (by decide) (by omega) (by omega) (fun c_73 => ?_) (fun c_73 => ?_)
              · refine lv_aload_n hx hb d_M_merge_93 rfl (lv_at hl 2 rfl) ?_
                refine lv_aload_n hx hb d_M_merge_94 rfl (lv_at hl 2 rfl) ?_
                refine vd_callVi (As := []) (rest := [.ref (ad 35)]) CX HW (j_here l D ad K19) mo_M_here wi_M_here ws_M_here (vr_35 CX HW) ml_M_54 rfl rfl ⟨Nat.le_of_ble_eq_true rfl, Nat.le_of_ble_eq_true rfl⟩ hl.1 (Nat.le_of_ble_eq_true rfl) d_M_merge_95 ⟨Nat.zero_le _, Nat.zero_le _⟩ (fun r26 K27 H locs q28 HW => ?_)
                obtain ⟨rfl, rfl, b29⟩ := q28
                have b29 : vd_hereM K19 ≤ 30 := b29
                refine lv_iload_n hx hb d_M_merge_98 rfl (lv_at hl 1 rfl) ?_
                refine lv_iload_n hx hb d_M_merge_99 rfl (lv_at hl 0 rfl) ?_
                refine lv_iconst (v := (nI 0)) hx hb d_M_merge_100 (by decide) ?_
                refine vd_callVi (As := [.int (nI (vd_hereM K19)), .int (nI (K 18 f)), .int (nI (vd_shr K (vd_hereM K) (K 18 f))), .int (nI 0)]) (rest := []) CX HW (j_mix l D ad K19 (vd_hereM K19) (K 18 f) (vd_shr K (vd_hereM K) (K 18 f)) 0 (by omega) (by omega) (by omega) (by omega)) mo_M_mix wi_M_mix ws_M_mix (vr_35 CX HW) ml_M_86 rfl rfl ⟨Nat.le_of_ble_eq_true rfl, Nat.le_of_ble_eq_true rfl⟩ hl.1 (Nat.le_of_ble_eq_true rfl) d_M_merge_101 ⟨Nat.zero_le _, Nat.zero_le _⟩ (fun r30 K31 H locs q32 HW => ?_)
                obtain ⟨eK31, rfl, b33⟩ := q32
                have b33 : vd_xn K19 (vd_hereM K19) (K 18 f) (vd_shr K (vd_hereM K) (K 18 f)) ≤ 16 := b33
                refine lv_istore (lv' := [(4, .int (nI (vd_xn K19 (vd_hereM K19) (K 18 f) (vd_shr K (vd_hereM K) (K 18 f))))), (3, .int (nI (vd_shr K (vd_hereM K) (K 18 f)))), (2, .int (nI (K 18 f))), (0, .ref (ad 35)), (1, .int (nI f))]) hx hb d_M_merge_104 hl (by decide) rfl (fun ls hl => ?_)
                have f47b : K31 47 0 = K 47 0 := by rw [eK31, vd_mxl_o _ _ _ _ _ (by decide) (by decide)]; exact f47
                refine lv_iload hx hb d_M_merge_106 (lv_at hl 0 rfl) ?_
                refine vd_if_ne (tgt := 148) hx hb d_M_merge_108 (by decide) (by omega) (fun c_108 => ?_) (fun c_108 => ?_)
                · refine lv_aload_n hx hb d_M_merge_148 rfl (lv_at hl 3 rfl) ?_
                  refine lv_aload_n hx hb d_M_merge_149 rfl (lv_at hl 3 rfl) ?_
                  refine vd_callVi (As := []) (rest := [.ref (ad 35)]) CX HW (j_here l D ad K31) mo_M_here wi_M_here ws_M_here (vr_35 CX HW) ml_M_54 rfl rfl ⟨Nat.le_of_ble_eq_true rfl, Nat.le_of_ble_eq_true rfl⟩ hl.1 (Nat.le_of_ble_eq_true rfl) d_M_merge_150 ⟨Nat.zero_le _, Nat.zero_le _⟩ (fun r34 K35 H locs q36 HW => ?_)
                  obtain ⟨rfl, rfl, b37⟩ := q36
                  have b37 : vd_hereM K31 ≤ 30 := b37
                  refine lv_iload_n hx hb d_M_merge_153 rfl (lv_at hl 2 rfl) ?_
                  refine lv_iload_n hx hb d_M_merge_154 rfl (lv_at hl 1 rfl) ?_
                  refine lv_iconst (v := (nI 1)) hx hb d_M_merge_155 (by decide) ?_
                  refine vd_callVi (As := [.int (nI (vd_hereM K31)), .int (nI (K 18 f)), .int (nI (vd_shr K (vd_hereM K) (K 18 f))), .int (nI 1)]) (rest := []) CX HW (j_mix l D ad K31 (vd_hereM K31) (K 18 f) (vd_shr K (vd_hereM K) (K 18 f)) 1 (by omega) (by omega) (by omega) (by omega)) mo_M_mix wi_M_mix ws_M_mix (vr_35 CX HW) ml_M_86 rfl rfl ⟨Nat.le_of_ble_eq_true rfl, Nat.le_of_ble_eq_true rfl⟩ hl.1 (Nat.le_of_ble_eq_true rfl) d_M_merge_156 ⟨Nat.zero_le _, Nat.zero_le _⟩ (fun r38 K39 H locs q40 HW => ?_)
                  obtain ⟨eK39, rfl, b41⟩ := q40
                  have b41 : vd_xn K31 (vd_hereM K31) (K 18 f) (vd_shr K (vd_hereM K) (K 18 f)) ≤ 16 := b41
                  refine lv_pop hx hb d_M_merge_159 rfl ?_
                  refine lv_aload_n hx hb d_M_merge_160 rfl (lv_at hl 3 rfl) ?_
                  refine lv_bipush (v := (nI 33)) hx hb d_M_merge_161 (by decide) ?_
                  refine vd_callVv (As := [.int (nI 33)]) (rest := []) CX HW (j_show l D ad K39 33 (by omega)) mo_M_show wi_M_show ws_M_show (vr_35 CX HW) ml_M_75 rfl rfl ⟨Nat.le_of_ble_eq_true rfl, Nat.le_of_ble_eq_true rfl⟩ hl.1 (Nat.le_of_ble_eq_true rfl) d_M_merge_163 ⟨Nat.zero_le _, Nat.zero_le _⟩ (fun K43 H locs q44 HW => ?_)
                  have eK43 := q44
                  refine lv_aload_n hx hb d_M_merge_166 rfl (lv_at hl 3 rfl) ?_
                  refine lv_iload_n hx hb d_M_merge_167 rfl (lv_at hl 2 rfl) ?_
                  refine vt_35_merging CX HW (x := (K 18 f)) (show K 18 f ≤ 30 by omega) lk_M_64 d_M_merge_168 (fun K45 H locs eK45 HW => ?_)
                  refine lv_bipush (v := (-5 : Int32)) hx hb d_M_merge_171 (by decide) ?_
                  exact RET _ _ _ _ _ _ d_M_merge_173 (by have h90 : ¬ (vd_thM K (nI f) = false ∨ vd_hereM K = 0 ∨ K 49 0 ≠ 0) := (by rw [c_t]; simp [c_22, c_29]); have h91 : ¬ (vd_tidyM K = false) := (by rw [c_38]; decide); unfold vd_meKM vd_meRM; rw [nI_clamp (show f < 2 ^ 31 by omega)]; rw [if_neg h90, if_neg h90, if_neg h91, if_neg h91]; exact vd_me_e c_63 hs1 c_73 c_108 eK31 eK39 eK43 eK45) HW
                · refine lv_aload_n hx hb d_M_merge_111 rfl (lv_at hl 3 rfl) ?_
                  refine vg_35_made CX HW lk_M_58 d_M_merge_112 (fun b46 => ?_)
                  have b46 : K31 47 0 ≤ 30 := b46
                  refine lv_bipush (v := (nI 30)) hx hb d_M_merge_115 (by decide) ?_
                  refine vd_icmp_ne (tgt := 123) hx hb d_M_merge_117 (by decide) (by omega) (by omega) (fun c_117 => ?_) (fun c_117 => ?_)
                  · refine lv_aload_n hx hb d_M_merge_123 rfl (lv_at hl 3 rfl) ?_
                    refine lv_bipush (v := (nI 33)) hx hb d_M_merge_124 (by decide) ?_
                    refine lv_aload_n hx hb d_M_merge_126 rfl (lv_at hl 3 rfl) ?_
                    refine vd_callVi (As := []) (rest := [.int (nI 33), .ref (ad 35)]) CX HW (j_here l D ad K31) mo_M_here wi_M_here ws_M_here (vr_35 CX HW) ml_M_54 rfl rfl ⟨Nat.le_of_ble_eq_true rfl, Nat.le_of_ble_eq_true rfl⟩ hl.1 (Nat.le_of_ble_eq_true rfl) d_M_merge_127 ⟨Nat.zero_le _, Nat.zero_le _⟩ (fun r47 K48 H locs q49 HW => ?_)
                    obtain ⟨rfl, rfl, b50⟩ := q49
                    have b50 : vd_hereM K31 ≤ 30 := b50
                    refine lv_iload_n hx hb d_M_merge_130 rfl (lv_at hl 2 rfl) ?_
                    refine vd_callVi (As := [.int (nI 33), .int (nI (vd_hereM K31)), .int (nI (K 18 f))]) (rest := []) CX HW (j_make l D ad K31 33 (vd_hereM K31) (K 18 f) (by omega) (by omega) (by omega) (by omega)) mo_M_make wi_M_make ws_M_make (vr_35 CX HW) ml_M_67 rfl rfl ⟨Nat.le_of_ble_eq_true rfl, Nat.le_of_ble_eq_true rfl⟩ hl.1 (Nat.le_of_ble_eq_true rfl) d_M_merge_131 ⟨Nat.zero_le _, Nat.zero_le _⟩ (fun r51 K52 H locs q53 HW => ?_)
                    obtain ⟨eK52, rfl⟩ := q53
                    refine lv_pop hx hb d_M_merge_134 rfl ?_
                    refine lv_aload_n hx hb d_M_merge_135 rfl (lv_at hl 3 rfl) ?_
                    refine lv_aload_n hx hb d_M_merge_136 rfl (lv_at hl 3 rfl) ?_
                    refine vd_callVi (As := []) (rest := [.ref (ad 35)]) CX HW (j_here l D ad K52) mo_M_here wi_M_here ws_M_here (vr_35 CX HW) ml_M_54 rfl rfl ⟨Nat.le_of_ble_eq_true rfl, Nat.le_of_ble_eq_true rfl⟩ hl.1 (Nat.le_of_ble_eq_true rfl) d_M_merge_137 ⟨Nat.zero_le _, Nat.zero_le _⟩ (fun r54 K55 H locs q56 HW => ?_)
                    obtain ⟨rfl, rfl, b57⟩ := q56
                    have b57 : vd_hereM K52 ≤ 30 := b57
                    refine vd_callVv (As := [.int (nI (vd_hereM K52))]) (rest := []) CX HW (j_show l D ad K52 (vd_hereM K52) (by omega)) mo_M_show wi_M_show ws_M_show (vr_35 CX HW) ml_M_75 rfl rfl ⟨Nat.le_of_ble_eq_true rfl, Nat.le_of_ble_eq_true rfl⟩ hl.1 (Nat.le_of_ble_eq_true rfl) d_M_merge_140 ⟨Nat.zero_le _, Nat.zero_le _⟩ (fun K59 H locs q60 HW => ?_)
                    have eK59 := q60
                    refine lv_aload_n hx hb d_M_merge_143 rfl (lv_at hl 3 rfl) ?_
                    refine vd_callVi (As := []) (rest := []) CX HW (j_here l D ad K59) mo_M_here wi_M_here ws_M_here (vr_35 CX HW) ml_M_54 rfl rfl ⟨Nat.le_of_ble_eq_true rfl, Nat.le_of_ble_eq_true rfl⟩ hl.1 (Nat.le_of_ble_eq_true rfl) d_M_merge_144 ⟨Nat.zero_le _, Nat.zero_le _⟩ (fun r61 K62 H locs q63 HW => ?_)
                    obtain ⟨rfl, rfl, b64⟩ := q63
                    have b64 : vd_hereM K59 ≤ 30 := b64
                    exact RET _ _ _ _ _ _ d_M_merge_147 (by have h90 : ¬ (vd_thM K (nI f) = false ∨ vd_hereM K = 0 ∨ K 49 0 ≠ 0) := (by rw [c_t]; simp [c_22, c_29]); have h91 : ¬ (vd_tidyM K = false) := (by rw [c_38]; decide); unfold vd_meKM vd_meRM; rw [nI_clamp (show f < 2 ^ 31 by omega)]; rw [if_neg h90, if_neg h90, if_neg h91, if_neg h91]; exact vd_me_d c_63 hs1 c_73 c_108 eK31 c_117 eK52 eK59) HW
                  · refine lv_bipush (v := (-2 : Int32)) hx hb d_M_merge_120 (by decide) ?_
                    exact RET _ _ _ _ _ _ d_M_merge_122 (by have h90 : ¬ (vd_thM K (nI f) = false ∨ vd_hereM K = 0 ∨ K 49 0 ≠ 0) := (by rw [c_t]; simp [c_22, c_29]); have h91 : ¬ (vd_tidyM K = false) := (by rw [c_38]; decide); unfold vd_meKM vd_meRM; rw [nI_clamp (show f < 2 ^ 31 by omega)]; rw [if_neg h90, if_neg h90, if_neg h91, if_neg h91]; exact vd_me_c c_63 hs1 c_73 c_108 eK31 c_117) HW
              · refine lv_aload_n hx hb d_M_merge_76 rfl (lv_at hl 2 rfl) ?_
                refine vg_35_branch CX HW lk_M_23 d_M_merge_77 ?_
                refine lv_aload_n hx hb d_M_merge_80 rfl (lv_at hl 2 rfl) ?_
                refine vg_35_head CX HW lk_M_38 d_M_merge_81 (fun b65 => ?_)
                have b65 : K19 48 0 ≤ 5 := b65
                refine lv_iload_n hx hb d_M_merge_84 rfl (lv_at hl 1 rfl) ?_
                refine vd_iast CX HW (j := 18) (i := (K19 48 0)) (x := (K 18 f)) rfl (show K19 48 0 < 6 by omega) (show K 18 f ≤ 30 by omega) d_M_merge_85 (fun K66 H locs eK66 HW => ?_)
                refine lv_aload_n hx hb d_M_merge_86 rfl (lv_at hl 2 rfl) ?_
                refine lv_iload_n hx hb d_M_merge_87 rfl (lv_at hl 1 rfl) ?_
                refine vd_callVv (As := [.int (nI (K 18 f))]) (rest := []) CX HW (j_show l D ad K66 (K 18 f) (by omega)) mo_M_show wi_M_show ws_M_show (vr_35 CX HW) ml_M_75 rfl rfl ⟨Nat.le_of_ble_eq_true rfl, Nat.le_of_ble_eq_true rfl⟩ hl.1 (Nat.le_of_ble_eq_true rfl) d_M_merge_88 ⟨Nat.zero_le _, Nat.zero_le _⟩ (fun K68 H locs q69 HW => ?_)
                have eK68 := q69
                refine lv_iload_n hx hb d_M_merge_91 rfl (lv_at hl 1 rfl) ?_
                exact RET _ _ _ _ _ _ d_M_merge_92 (by have h90 : ¬ (vd_thM K (nI f) = false ∨ vd_hereM K = 0 ∨ K 49 0 ≠ 0) := (by rw [c_t]; simp [c_22, c_29]); have h91 : ¬ (vd_tidyM K = false) := (by rw [c_38]; decide); unfold vd_meKM vd_meRM; rw [nI_clamp (show f < 2 ^ 31 by omega)]; rw [if_neg h90, if_neg h90, if_neg h91, if_neg h91]; exact vd_me_b c_63 hs1 c_73 (by rw [eK68, eK66])) HW
            · refine lv_iconst (v := (nI 0)) hx hb d_M_merge_66 (by decide) ?_
              exact RET _ _ _ _ _ _ d_M_merge_67 (by have h90 : ¬ (vd_thM K (nI f) = false ∨ vd_hereM K = 0 ∨ K 49 0 ≠ 0) := (by rw [c_t]; simp [c_22, c_29]); have h91 : ¬ (vd_tidyM K = false) := (by rw [c_38]; decide); unfold vd_meKM vd_meRM; rw [nI_clamp (show f < 2 ^ 31 by omega)]; rw [if_neg h90, if_neg h90, if_neg h91, if_neg h91]; exact vd_me_a c_63 hs1) HW
          · refine lv_bipush (v := (-4 : Int32)) hx hb d_M_merge_41 (by decide) ?_
            exact RET _ _ _ _ _ _ d_M_merge_43 (by have h90 : ¬ (vd_thM K (nI f) = false ∨ vd_hereM K = 0 ∨ K 49 0 ≠ 0) := (by rw [c_t]; simp [c_22, c_29]); have h91 : vd_tidyM K = false := (by exact c_38); unfold vd_meKM vd_meRM; rw [if_neg h90, if_neg h90, if_pos h91, if_pos h91]; exact ⟨rfl, rfl⟩) HW
        · refine lv_iconst (v := (-1 : Int32)) hx hb d_M_merge_32 (by decide) ?_
          exact RET _ _ _ _ _ _ d_M_merge_33 (by first | (have h90 : vd_thM K (nI f) = false ∨ vd_hereM K = 0 ∨ K 49 0 ≠ 0 := (by exact Or.inr (Or.inr c_29)); unfold vd_meKM vd_meRM; rw [if_pos h90, if_pos h90]; exact ⟨rfl, rfl⟩) | (have h90 : vd_thM K (nI f) = false ∨ vd_hereM K = 0 ∨ K 49 0 ≠ 0 := (by exact Or.inr (Or.inl c_22)); unfold vd_meKM vd_meRM; rw [if_pos h90, if_pos h90]; exact ⟨rfl, rfl⟩) | (have h90 : vd_thM K (nI f) = false ∨ vd_hereM K = 0 ∨ K 49 0 ≠ 0 := (by refine Or.inl ?_; unfold vd_thM; rw [c_6, nI_clamp (show f < 2 ^ 31 by omega), c_15]; rfl); unfold vd_meKM vd_meRM; rw [if_pos h90, if_pos h90]; exact ⟨rfl, rfl⟩) | (have h90 : vd_thM K x = false ∨ vd_hereM K = 0 ∨ K 49 0 ≠ 0 := (by refine Or.inl ?_; unfold vd_thM; rw [c_6]; rfl); unfold vd_meKM vd_meRM; rw [if_pos h90, if_pos h90]; exact ⟨rfl, rfl⟩)) HW
set_option maxHeartbeats 1000000 in
set_option maxRecDepth 100000 in
theorem j_abort (l : Launch) (D : va_G) (ad : Nat → Nat) (K : KT)   : vd_MI l y_M_abort c_M_abort 2 (some .int) 2 44 D ad [.ref (ad 35)] K (fun (ans : Int32) (K' : KT) => K' = (if K 49 0 = 0 then K else vd_shw (vd_fl (vd_st K 49 0 0) 19 0 16 (fun _ => 0)) (vd_hereM K)) ∧ ans = (if K 49 0 = 0 then (-1 : Int32) else nI 0)) := by
  refine vd_entI (by decide) (Nat.le_of_ble_eq_true rfl) (lv := [(0, .ref (ad 35))]) rfl ?_
  intro p e s m args below meth cd ls Q CX hl H locs HW RET
  have hx := CX.1
  have hb := CX.2.1
  refine lv_aload_n hx hb d_M_abort_0 rfl (lv_at hl 0 rfl) ?_
  refine vg_35_merging CX HW lk_M_64 d_M_abort_1 (fun b1 => ?_)
  have b1 : K 49 0 ≤ 30 := b1
  refine vd_if_ne (tgt := 9) hx hb d_M_abort_4 (by decide) (by omega) (fun c_4 => ?_) (fun c_4 => ?_)
  · refine lv_aload_n hx hb d_M_abort_9 rfl (lv_at hl 0 rfl) ?_
    refine lv_iconst (v := (nI 0)) hx hb d_M_abort_10 (by decide) ?_
    refine vt_35_merging CX HW (x := 0) (show 0 ≤ 30 by omega) lk_M_64 d_M_abort_11 (fun K2 H locs eK2 HW => ?_)
    refine lv_iconst (v := (nI 0)) hx hb d_M_abort_14 (by decide) ?_
    refine lv_istore_n (lv' := [(1, .int (nI 0)), (0, .ref (ad 35))]) hx hb d_M_abort_15 rfl hl (by decide) rfl (fun ls hl => ?_)
    have loop16 : ∀ (n : Nat) (i : Nat) (Kl : KT), (i ≤ 16) → (Kl = vd_fl (vd_st K 49 0 0) 19 0 i (fun _ => 0)) → (16 < i + n) → ∀ (H : Heap) (locs : List Loc) (ls : Array Slot), vd_WS D ad s Kl H locs → lv_has ls 2 [(0, .ref (ad 35)), (1, .int (nI i))] → W p l e (vd_R 2 44) s m args below meth cd H locs 0 0 Q (F0 m 16 ls []) := by
      intro n
      induction n with
      | zero => intro i Kl hi hk hm; exfalso; omega
      | succ n ih16 =>
        intro i Kl hi hk hm H locs ls HW hl
        refine lv_iload_n hx hb d_M_abort_16 rfl (lv_at hl 1 rfl) ?_
        refine lv_bipush (v := (nI 16)) hx hb d_M_abort_17 (by decide) ?_
        refine vd_icmp_ge (tgt := 35) hx hb d_M_abort_19 (by decide) (by omega) (by omega) (fun c_19 => ?_) (fun c_19 => ?_)
        · have fh : vd_hereM Kl = vd_hereM K := by rw [hk]; rfl
          refine lv_aload_n hx hb d_M_abort_35 rfl (lv_at hl 0 rfl) ?_
          refine lv_aload_n hx hb d_M_abort_36 rfl (lv_at hl 0 rfl) ?_
          refine vd_callVi (As := []) (rest := [.ref (ad 35)]) CX HW (j_here l D ad Kl) mo_M_here wi_M_here ws_M_here (vr_35 CX HW) ml_M_54 rfl rfl ⟨Nat.le_of_ble_eq_true rfl, Nat.le_of_ble_eq_true rfl⟩ hl.1 (Nat.le_of_ble_eq_true rfl) d_M_abort_37 ⟨Nat.zero_le _, Nat.zero_le _⟩ (fun r3 K4 H locs q5 HW => ?_)
          obtain ⟨rfl, rfl, b6⟩ := q5
          have b6 : vd_hereM Kl ≤ 30 := b6
          refine vd_callVv (As := [.int (nI (vd_hereM Kl))]) (rest := []) CX HW (j_show l D ad Kl (vd_hereM Kl) (by omega)) mo_M_show wi_M_show ws_M_show (vr_35 CX HW) ml_M_75 rfl rfl ⟨Nat.le_of_ble_eq_true rfl, Nat.le_of_ble_eq_true rfl⟩ hl.1 (Nat.le_of_ble_eq_true rfl) d_M_abort_40 ⟨Nat.zero_le _, Nat.zero_le _⟩ (fun K8 H locs q9 HW => ?_)
          have eK8 := q9
          refine lv_iconst (v := (nI 0)) hx hb d_M_abort_43 (by decide) ?_
          exact RET _ _ _ _ _ _ d_M_abort_44 (by have h90 : ¬ (K 49 0 = 0) := (by exact c_4); rw [if_neg h90, if_neg h90]; refine ⟨?_, rfl⟩; rw [eK8, fh, hk, show i = 16 by omega]) HW
        · refine lv_aload_n hx hb d_M_abort_22 rfl (lv_at hl 0 rfl) ?_
          refine vg_35_clashing CX HW lk_M_26 d_M_abort_23 ?_
          refine lv_iload_n hx hb d_M_abort_26 rfl (lv_at hl 1 rfl) ?_
          refine lv_iconst (v := (nI 0)) hx hb d_M_abort_27 (by decide) ?_
          refine vd_zast CX HW (j := 19) (i := i) (x := 0) rfl (show i < 16 by omega) (show 0 ≤ 1 by omega) (show 0 ≤ 1 by omega) d_M_abort_28 (fun K10 H locs eK10 HW => ?_)
          refine lv_iinc (v := (nI (i + 1))) (lv' := [(1, .int (nI (i + 1))), (0, .ref (ad 35))]) hx hb d_M_abort_29 hl (k := 1) rfl (vd_inc _ 1) (by decide) rfl (fun ls hl => ?_)
          refine lv_goto (tgt := 16) hx hb d_M_abort_32 (by decide) ?_
          exact ih16 (i + 1) K10 (by omega) (by exact vd_fl_step hk eK10 (by omega) rfl) (by omega) H locs ls HW (lv_sub hl [1, 0] rfl)
    exact loop16 17 0 K2 (by omega) (by rw [vd_fl_0]; exact eK2) (by omega) H locs ls HW (lv_sub hl [1, 0] rfl)
  · refine lv_iconst (v := (-1 : Int32)) hx hb d_M_abort_7 (by decide) ?_
    exact RET _ _ _ _ _ _ d_M_abort_8 (by have h90 : K 49 0 = 0 := (by exact c_4); rw [if_pos h90, if_pos h90]; exact ⟨rfl, rfl⟩) HW
set_option maxHeartbeats 1000000 in
set_option maxRecDepth 100000 in
theorem j_pick (l : Launch) (D : va_G) (ad : Nat → Nat) (K : KT) (x : Int32)  : vd_MI l y_M_pick c_M_pick 2 (some .int) 2 47 D ad [.ref (ad 35), .int x] K (fun (ans : Int32) (K' : KT) => K' = vd_piKM K x ∧ ans = (vd_piRM K x)) := by
  refine vd_entI (by decide) (Nat.le_of_ble_eq_true rfl) (lv := [(0, .ref (ad 35)), (1, .int x)]) rfl ?_
  intro p e s m args below meth cd ls Q CX hl H locs HW RET
  have hx := CX.1
  have hb := CX.2.1
  refine lv_aload_n hx hb d_M_pick_0 rfl (lv_at hl 0 rfl) ?_
  refine lv_iload_n hx hb d_M_pick_1 rfl (lv_at hl 1 rfl) ?_
  refine vd_callVi (As := [.int x]) (rest := []) CX HW (j_isStored l D ad K x) mo_M_isStored wi_M_isStored ws_M_isStored (vr_35 CX HW) ml_M_90 rfl rfl ⟨Nat.le_of_ble_eq_true rfl, Nat.le_of_ble_eq_true rfl⟩ hl.1 (Nat.le_of_ble_eq_true rfl) d_M_pick_2 ⟨Nat.zero_le _, Nat.zero_le _⟩ (fun r1 K2 H locs q3 HW => ?_)
  obtain ⟨rfl, rfl⟩ := q3
  refine vd_ifb_eq (tgt := 22) hx hb d_M_pick_5 (by decide) (fun c_5 => ?_) (fun c_5 => ?_)
  · refine lv_iconst (v := (-1 : Int32)) hx hb d_M_pick_22 (by decide) ?_
    exact RET _ _ _ _ _ _ d_M_pick_23 (by first | (have h90 : vd_stoM K x = false ∨ vd_hereM K = 0 ∨ K 49 0 ≠ 0 := (by exact Or.inr (Or.inr c_19)); unfold vd_piKM vd_piRM; rw [if_pos h90, if_pos h90]; exact ⟨rfl, rfl⟩) | (have h90 : vd_stoM K x = false ∨ vd_hereM K = 0 ∨ K 49 0 ≠ 0 := (by exact Or.inr (Or.inl c_12)); unfold vd_piKM vd_piRM; rw [if_pos h90, if_pos h90]; exact ⟨rfl, rfl⟩) | (have h90 : vd_stoM K x = false ∨ vd_hereM K = 0 ∨ K 49 0 ≠ 0 := (by exact Or.inl c_5); unfold vd_piKM vd_piRM; rw [if_pos h90, if_pos h90]; exact ⟨rfl, rfl⟩)) HW
  · refine lv_aload_n hx hb d_M_pick_8 rfl (lv_at hl 0 rfl) ?_
    refine vd_callVi (As := []) (rest := []) CX HW (j_here l D ad K) mo_M_here wi_M_here ws_M_here (vr_35 CX HW) ml_M_54 rfl rfl ⟨Nat.le_of_ble_eq_true rfl, Nat.le_of_ble_eq_true rfl⟩ hl.1 (Nat.le_of_ble_eq_true rfl) d_M_pick_9 ⟨Nat.zero_le _, Nat.zero_le _⟩ (fun r4 K5 H locs q6 HW => ?_)
    obtain ⟨rfl, rfl, b7⟩ := q6
    have b7 : vd_hereM K ≤ 30 := b7
    refine vd_if_eq (tgt := 22) hx hb d_M_pick_12 (by decide) (by omega) (fun c_12 => ?_) (fun c_12 => ?_)
    · refine lv_iconst (v := (-1 : Int32)) hx hb d_M_pick_22 (by decide) ?_
      exact RET _ _ _ _ _ _ d_M_pick_23 (by first | (have h90 : vd_stoM K x = false ∨ vd_hereM K = 0 ∨ K 49 0 ≠ 0 := (by exact Or.inr (Or.inr c_19)); unfold vd_piKM vd_piRM; rw [if_pos h90, if_pos h90]; exact ⟨rfl, rfl⟩) | (have h90 : vd_stoM K x = false ∨ vd_hereM K = 0 ∨ K 49 0 ≠ 0 := (by exact Or.inr (Or.inl c_12)); unfold vd_piKM vd_piRM; rw [if_pos h90, if_pos h90]; exact ⟨rfl, rfl⟩) | (have h90 : vd_stoM K x = false ∨ vd_hereM K = 0 ∨ K 49 0 ≠ 0 := (by exact Or.inl c_5); unfold vd_piKM vd_piRM; rw [if_pos h90, if_pos h90]; exact ⟨rfl, rfl⟩)) HW
    · refine lv_aload_n hx hb d_M_pick_15 rfl (lv_at hl 0 rfl) ?_
      refine vg_35_merging CX HW lk_M_64 d_M_pick_16 (fun b8 => ?_)
      have b8 : K 49 0 ≤ 30 := b8
      refine vd_if_le (tgt := 24) hx hb d_M_pick_19 (by decide) (by omega) (fun c_19 => ?_) (fun c_19 => ?_)
      · refine lv_aload_n hx hb d_M_pick_24 rfl (lv_at hl 0 rfl) ?_
        refine vd_callVi (As := []) (rest := []) CX HW (j_tidy l D ad K) mo_M_tidy wi_M_tidy ws_M_tidy (vr_35 CX HW) ml_M_71 rfl rfl ⟨Nat.le_of_ble_eq_true rfl, Nat.le_of_ble_eq_true rfl⟩ hl.1 (Nat.le_of_ble_eq_true rfl) d_M_pick_25 ⟨Nat.zero_le _, Nat.zero_le _⟩ (fun r9 K10 H locs q11 HW => ?_)
        obtain ⟨rfl, rfl⟩ := q11
        refine vd_ifb_ne (tgt := 34) hx hb d_M_pick_28 (by decide) (fun c_28 => ?_) (fun c_28 => ?_)
        · obtain ⟨f, hf1, hf2, rfl, hf3⟩ := vd_stoM_t c_5
          refine lv_aload_n hx hb d_M_pick_34 rfl (lv_at hl 0 rfl) ?_
          refine lv_aload_n hx hb d_M_pick_35 rfl (lv_at hl 0 rfl) ?_
          refine vd_callVi (As := []) (rest := [.ref (ad 35)]) CX HW (j_here l D ad K) mo_M_here wi_M_here ws_M_here (vr_35 CX HW) ml_M_54 rfl rfl ⟨Nat.le_of_ble_eq_true rfl, Nat.le_of_ble_eq_true rfl⟩ hl.1 (Nat.le_of_ble_eq_true rfl) d_M_pick_36 ⟨Nat.zero_le _, Nat.zero_le _⟩ (fun r12 K13 H locs q14 HW => ?_)
          obtain ⟨rfl, rfl, b15⟩ := q14
          have b15 : vd_hereM K ≤ 30 := b15
          refine lv_iload_n hx hb d_M_pick_39 rfl (lv_at hl 1 rfl) ?_
          refine lv_aload_n hx hb d_M_pick_40 rfl (lv_at hl 0 rfl) ?_
          refine vg_35_first CX HW lk_M_17 d_M_pick_41 ?_
          refine lv_iload_n hx hb d_M_pick_44 rfl (lv_at hl 1 rfl) ?_
          refine vd_iald CX HW (j := 16) (i := f) rfl (show f < 31 by omega) d_M_pick_45 (fun b16 => ?_)
          have b16 : K 16 f ≤ 30 := b16
          refine lv_iconst (v := (nI 0)) hx hb d_M_pick_46 (by decide) ?_
          refine vd_callVi (As := [.int (nI (vd_hereM K)), .int (nI f), .int (nI (K 16 f)), .int (nI 0)]) (rest := []) CX HW (j_mix l D ad K (vd_hereM K) f (K 16 f) 0 (by omega) (by omega) (by omega) (by omega)) mo_M_mix wi_M_mix ws_M_mix (vr_35 CX HW) ml_M_86 rfl rfl ⟨Nat.le_of_ble_eq_true rfl, Nat.le_of_ble_eq_true rfl⟩ hl.1 (Nat.le_of_ble_eq_true rfl) d_M_pick_47 ⟨Nat.zero_le _, Nat.zero_le _⟩ (fun r17 K18 H locs q19 HW => ?_)
          obtain ⟨eK18, rfl, b20⟩ := q19
          have b20 : vd_xn K (vd_hereM K) f (K 16 f) ≤ 16 := b20
          have hs1 : K18 = vd_mxl K (vd_hereM K) f (K 16 f) 0 16 := eK18
          have f47 : K18 47 0 = K 47 0 := by rw [hs1, vd_mxl_o _ _ _ _ _ (by decide) (by decide)]
          refine vd_if_le (tgt := 56) hx hb d_M_pick_50 (by decide) (by omega) (fun c_50 => ?_) (fun c_50 => ?_)
          · refine lv_aload_n hx hb d_M_pick_56 rfl (lv_at hl 0 rfl) ?_
            refine lv_bipush (v := (nI 33)) hx hb d_M_pick_57 (by decide) ?_
            refine lv_aload_n hx hb d_M_pick_59 rfl (lv_at hl 0 rfl) ?_
            refine vd_callVi (As := []) (rest := [.int (nI 33), .ref (ad 35)]) CX HW (j_here l D ad K18) mo_M_here wi_M_here ws_M_here (vr_35 CX HW) ml_M_54 rfl rfl ⟨Nat.le_of_ble_eq_true rfl, Nat.le_of_ble_eq_true rfl⟩ hl.1 (Nat.le_of_ble_eq_true rfl) d_M_pick_60 ⟨Nat.zero_le _, Nat.zero_le _⟩ (fun r21 K22 H locs q23 HW => ?_)
            obtain ⟨rfl, rfl, b24⟩ := q23
            have b24 : vd_hereM K18 ≤ 30 := b24
            refine vd_callVi (As := [.int (nI 33), .int (nI (vd_hereM K18))]) (rest := []) CX HW (j_same l D ad K18 33 (vd_hereM K18) (by omega) (by omega)) mo_M_same wi_M_same ws_M_same (vr_35 CX HW) ml_M_50 rfl rfl ⟨Nat.le_of_ble_eq_true rfl, Nat.le_of_ble_eq_true rfl⟩ hl.1 (Nat.le_of_ble_eq_true rfl) d_M_pick_63 ⟨Nat.zero_le _, Nat.zero_le _⟩ (fun r25 K26 H locs q27 HW => ?_)
            obtain ⟨rfl, rfl⟩ := q27
            refine vd_ifb_eq (tgt := 72) hx hb d_M_pick_66 (by decide) (fun c_66 => ?_) (fun c_66 => ?_)
            · refine lv_aload_n hx hb d_M_pick_72 rfl (lv_at hl 0 rfl) ?_
              refine vg_35_made CX HW lk_M_58 d_M_pick_73 (fun b28 => ?_)
              have b28 : K18 47 0 ≤ 30 := b28
              refine lv_bipush (v := (nI 30)) hx hb d_M_pick_76 (by decide) ?_
              refine vd_icmp_ne (tgt := 84) hx hb d_M_pick_78 (by decide) (by omega) (by omega) (fun c_78 => ?_) (fun c_78 => ?_)
              · refine lv_aload_n hx hb d_M_pick_84 rfl (lv_at hl 0 rfl) ?_
                refine lv_bipush (v := (nI 33)) hx hb d_M_pick_85 (by decide) ?_
                refine lv_aload_n hx hb d_M_pick_87 rfl (lv_at hl 0 rfl) ?_
                refine vd_callVi (As := []) (rest := [.int (nI 33), .ref (ad 35)]) CX HW (j_here l D ad K18) mo_M_here wi_M_here ws_M_here (vr_35 CX HW) ml_M_54 rfl rfl ⟨Nat.le_of_ble_eq_true rfl, Nat.le_of_ble_eq_true rfl⟩ hl.1 (Nat.le_of_ble_eq_true rfl) d_M_pick_88 ⟨Nat.zero_le _, Nat.zero_le _⟩ (fun r29 K30 H locs q31 HW => ?_)
                obtain ⟨rfl, rfl, b32⟩ := q31
                have b32 : vd_hereM K18 ≤ 30 := b32
                refine lv_iconst (v := (nI 0)) hx hb d_M_pick_91 (by decide) ?_
                refine vd_callVi (As := [.int (nI 33), .int (nI (vd_hereM K18)), .int (nI 0)]) (rest := []) CX HW (j_make l D ad K18 33 (vd_hereM K18) 0 (by omega) (by omega) (by omega) (by omega)) mo_M_make wi_M_make ws_M_make (vr_35 CX HW) ml_M_67 rfl rfl ⟨Nat.le_of_ble_eq_true rfl, Nat.le_of_ble_eq_true rfl⟩ hl.1 (Nat.le_of_ble_eq_true rfl) d_M_pick_92 ⟨Nat.zero_le _, Nat.zero_le _⟩ (fun r33 K34 H locs q35 HW => ?_)
                obtain ⟨eK34, rfl⟩ := q35
                refine lv_pop hx hb d_M_pick_95 rfl ?_
                refine lv_aload_n hx hb d_M_pick_96 rfl (lv_at hl 0 rfl) ?_
                refine lv_aload_n hx hb d_M_pick_97 rfl (lv_at hl 0 rfl) ?_
                refine vd_callVi (As := []) (rest := [.ref (ad 35)]) CX HW (j_here l D ad K34) mo_M_here wi_M_here ws_M_here (vr_35 CX HW) ml_M_54 rfl rfl ⟨Nat.le_of_ble_eq_true rfl, Nat.le_of_ble_eq_true rfl⟩ hl.1 (Nat.le_of_ble_eq_true rfl) d_M_pick_98 ⟨Nat.zero_le _, Nat.zero_le _⟩ (fun r36 K37 H locs q38 HW => ?_)
                obtain ⟨rfl, rfl, b39⟩ := q38
                have b39 : vd_hereM K34 ≤ 30 := b39
                refine vd_callVv (As := [.int (nI (vd_hereM K34))]) (rest := []) CX HW (j_show l D ad K34 (vd_hereM K34) (by omega)) mo_M_show wi_M_show ws_M_show (vr_35 CX HW) ml_M_75 rfl rfl ⟨Nat.le_of_ble_eq_true rfl, Nat.le_of_ble_eq_true rfl⟩ hl.1 (Nat.le_of_ble_eq_true rfl) d_M_pick_101 ⟨Nat.zero_le _, Nat.zero_le _⟩ (fun K41 H locs q42 HW => ?_)
                have eK41 := q42
                refine lv_aload_n hx hb d_M_pick_104 rfl (lv_at hl 0 rfl) ?_
                refine vd_callVi (As := []) (rest := []) CX HW (j_here l D ad K41) mo_M_here wi_M_here ws_M_here (vr_35 CX HW) ml_M_54 rfl rfl ⟨Nat.le_of_ble_eq_true rfl, Nat.le_of_ble_eq_true rfl⟩ hl.1 (Nat.le_of_ble_eq_true rfl) d_M_pick_105 ⟨Nat.zero_le _, Nat.zero_le _⟩ (fun r43 K44 H locs q45 HW => ?_)
                obtain ⟨rfl, rfl, b46⟩ := q45
                have b46 : vd_hereM K41 ≤ 30 := b46
                exact RET _ _ _ _ _ _ d_M_pick_108 (by have h90 : ¬ (vd_stoM K (nI f) = false ∨ vd_hereM K = 0 ∨ K 49 0 ≠ 0) := (by rw [c_5]; simp [c_12, c_19]); have h91 : ¬ (vd_tidyM K = false) := (by rw [c_28]; decide); unfold vd_piKM vd_piRM; rw [nI_clamp (show f < 2 ^ 31 by omega)]; rw [if_neg h90, if_neg h90, if_neg h91, if_neg h91]; exact vd_pi_d hs1 c_50 c_66 c_78 eK34 eK41) HW
              · refine lv_bipush (v := (-2 : Int32)) hx hb d_M_pick_81 (by decide) ?_
                exact RET _ _ _ _ _ _ d_M_pick_83 (by have h90 : ¬ (vd_stoM K (nI f) = false ∨ vd_hereM K = 0 ∨ K 49 0 ≠ 0) := (by rw [c_5]; simp [c_12, c_19]); have h91 : ¬ (vd_tidyM K = false) := (by rw [c_28]; decide); unfold vd_piKM vd_piRM; rw [nI_clamp (show f < 2 ^ 31 by omega)]; rw [if_neg h90, if_neg h90, if_neg h91, if_neg h91]; exact vd_pi_c hs1 c_50 c_66 c_78) HW
            · refine lv_bipush (v := (-3 : Int32)) hx hb d_M_pick_69 (by decide) ?_
              exact RET _ _ _ _ _ _ d_M_pick_71 (by have h90 : ¬ (vd_stoM K (nI f) = false ∨ vd_hereM K = 0 ∨ K 49 0 ≠ 0) := (by rw [c_5]; simp [c_12, c_19]); have h91 : ¬ (vd_tidyM K = false) := (by rw [c_28]; decide); unfold vd_piKM vd_piRM; rw [nI_clamp (show f < 2 ^ 31 by omega)]; rw [if_neg h90, if_neg h90, if_neg h91, if_neg h91]; exact vd_pi_b hs1 c_50 c_66) HW
          · refine lv_bipush (v := (-5 : Int32)) hx hb d_M_pick_53 (by decide) ?_
            exact RET _ _ _ _ _ _ d_M_pick_55 (by have h90 : ¬ (vd_stoM K (nI f) = false ∨ vd_hereM K = 0 ∨ K 49 0 ≠ 0) := (by rw [c_5]; simp [c_12, c_19]); have h91 : ¬ (vd_tidyM K = false) := (by rw [c_28]; decide); unfold vd_piKM vd_piRM; rw [nI_clamp (show f < 2 ^ 31 by omega)]; rw [if_neg h90, if_neg h90, if_neg h91, if_neg h91]; exact vd_pi_a hs1 c_50) HW
        · refine lv_bipush (v := (-4 : Int32)) hx hb d_M_pick_31 (by decide) ?_
          exact RET _ _ _ _ _ _ d_M_pick_33 (by have h90 : ¬ (vd_stoM K x = false ∨ vd_hereM K = 0 ∨ K 49 0 ≠ 0) := (by rw [c_5]; simp [c_12, c_19]); have h91 : vd_tidyM K = false := (by exact c_28); unfold vd_piKM vd_piRM; rw [if_neg h90, if_neg h90, if_pos h91, if_pos h91]; exact ⟨rfl, rfl⟩) HW
      · refine lv_iconst (v := (-1 : Int32)) hx hb d_M_pick_22 (by decide) ?_
        exact RET _ _ _ _ _ _ d_M_pick_23 (by first | (have h90 : vd_stoM K x = false ∨ vd_hereM K = 0 ∨ K 49 0 ≠ 0 := (by exact Or.inr (Or.inr c_19)); unfold vd_piKM vd_piRM; rw [if_pos h90, if_pos h90]; exact ⟨rfl, rfl⟩) | (have h90 : vd_stoM K x = false ∨ vd_hereM K = 0 ∨ K 49 0 ≠ 0 := (by exact Or.inr (Or.inl c_12)); unfold vd_piKM vd_piRM; rw [if_pos h90, if_pos h90]; exact ⟨rfl, rfl⟩) | (have h90 : vd_stoM K x = false ∨ vd_hereM K = 0 ∨ K 49 0 ≠ 0 := (by exact Or.inl c_5); unfold vd_piKM vd_piRM; rw [if_pos h90, if_pos h90]; exact ⟨rfl, rfl⟩)) HW
set_option maxHeartbeats 1000000 in
set_option maxRecDepth 100000 in
theorem j_reset (l : Launch) (D : va_G) (ad : Nat → Nat) (K : KT) (x : Int32)  : vd_MI l y_M_reset c_M_reset 2 (some .int) 2 44 D ad [.ref (ad 35), .int x] K (fun (ans : Int32) (K' : KT) => K' = (if vd_stoM K x = false ∨ K 49 0 ≠ 0 then K else vd_shw (vd_st K 18 (K 48 0) x.toNatClampNeg) x.toNatClampNeg) ∧ ans = (if vd_stoM K x = false ∨ K 49 0 ≠ 0 then (-1 : Int32) else nI 0)) := by
  refine vd_entI (by decide) (Nat.le_of_ble_eq_true rfl) (lv := [(0, .ref (ad 35)), (1, .int x)]) rfl ?_
  intro p e s m args below meth cd ls Q CX hl H locs HW RET
  have hx := CX.1
  have hb := CX.2.1
  refine lv_aload_n hx hb d_M_reset_0 rfl (lv_at hl 0 rfl) ?_
  refine lv_iload_n hx hb d_M_reset_1 rfl (lv_at hl 1 rfl) ?_
  refine vd_callVi (As := [.int x]) (rest := []) CX HW (j_isStored l D ad K x) mo_M_isStored wi_M_isStored ws_M_isStored (vr_35 CX HW) ml_M_90 rfl rfl ⟨Nat.le_of_ble_eq_true rfl, Nat.le_of_ble_eq_true rfl⟩ hl.1 (Nat.le_of_ble_eq_true rfl) d_M_reset_2 ⟨Nat.zero_le _, Nat.zero_le _⟩ (fun r1 K2 H locs q3 HW => ?_)
  obtain ⟨rfl, rfl⟩ := q3
  refine vd_ifb_eq (tgt := 15) hx hb d_M_reset_5 (by decide) (fun c_5 => ?_) (fun c_5 => ?_)
  · refine lv_iconst (v := (-1 : Int32)) hx hb d_M_reset_15 (by decide) ?_
    exact RET _ _ _ _ _ _ d_M_reset_16 (by first | (have h90 : vd_stoM K x = false ∨ K 49 0 ≠ 0 := (by exact Or.inr c_12); rw [if_pos h90, if_pos h90]; exact ⟨rfl, rfl⟩) | (have h90 : vd_stoM K x = false ∨ K 49 0 ≠ 0 := (by exact Or.inl c_5); rw [if_pos h90, if_pos h90]; exact ⟨rfl, rfl⟩)) HW
  · refine lv_aload_n hx hb d_M_reset_8 rfl (lv_at hl 0 rfl) ?_
    refine vg_35_merging CX HW lk_M_64 d_M_reset_9 (fun b4 => ?_)
    have b4 : K 49 0 ≤ 30 := b4
    refine vd_if_le (tgt := 17) hx hb d_M_reset_12 (by decide) (by omega) (fun c_12 => ?_) (fun c_12 => ?_)
    · obtain ⟨f, hf1, hf2, rfl, hf3⟩ := vd_stoM_t c_5
      refine lv_aload_n hx hb d_M_reset_17 rfl (lv_at hl 0 rfl) ?_
      refine vg_35_branch CX HW lk_M_23 d_M_reset_18 ?_
      refine lv_aload_n hx hb d_M_reset_21 rfl (lv_at hl 0 rfl) ?_
      refine vg_35_head CX HW lk_M_38 d_M_reset_22 (fun b5 => ?_)
      have b5 : K 48 0 ≤ 5 := b5
      refine lv_iload_n hx hb d_M_reset_25 rfl (lv_at hl 1 rfl) ?_
      refine vd_iast CX HW (j := 18) (i := (K 48 0)) (x := f) rfl (show K 48 0 < 6 by omega) (show f ≤ 30 by omega) d_M_reset_26 (fun K6 H locs eK6 HW => ?_)
      refine lv_aload_n hx hb d_M_reset_27 rfl (lv_at hl 0 rfl) ?_
      refine lv_iload_n hx hb d_M_reset_28 rfl (lv_at hl 1 rfl) ?_
      refine vd_callVv (As := [.int (nI f)]) (rest := []) CX HW (j_show l D ad K6 f (by omega)) mo_M_show wi_M_show ws_M_show (vr_35 CX HW) ml_M_75 rfl rfl ⟨Nat.le_of_ble_eq_true rfl, Nat.le_of_ble_eq_true rfl⟩ hl.1 (Nat.le_of_ble_eq_true rfl) d_M_reset_29 ⟨Nat.zero_le _, Nat.zero_le _⟩ (fun K8 H locs q9 HW => ?_)
      have eK8 := q9
      refine lv_iconst (v := (nI 0)) hx hb d_M_reset_32 (by decide) ?_
      exact RET _ _ _ _ _ _ d_M_reset_33 (by have h90 : ¬ (vd_stoM K (nI f) = false ∨ K 49 0 ≠ 0) := (by rw [c_5]; simp [c_12]); rw [nI_clamp (show f < 2 ^ 31 by omega)]; rw [if_neg h90, if_neg h90]; subst_vars; exact ⟨rfl, rfl⟩) HW
    · refine lv_iconst (v := (-1 : Int32)) hx hb d_M_reset_15 (by decide) ?_
      exact RET _ _ _ _ _ _ d_M_reset_16 (by first | (have h90 : vd_stoM K x = false ∨ K 49 0 ≠ 0 := (by exact Or.inr c_12); rw [if_pos h90, if_pos h90]; exact ⟨rfl, rfl⟩) | (have h90 : vd_stoM K x = false ∨ K 49 0 ≠ 0 := (by exact Or.inl c_5); rw [if_pos h90, if_pos h90]; exact ⟨rfl, rfl⟩)) HW
set_option maxHeartbeats 1000000 in
set_option maxRecDepth 100000 in
theorem j_remove (l : Launch) (D : va_G) (ad : Nat → Nat) (K : KT) (x : Int32)  : vd_MI l y_M_remove c_M_remove 2 (some .int) 1 22 D ad [.ref (ad 35), .int x] K (fun (ans : Int32) (K' : KT) => K' = (if vd_thM K x = false ∨ x.toNatClampNeg = K 48 0 then K else vd_st K 18 x.toNatClampNeg 0) ∧ ans = (if vd_thM K x = false ∨ x.toNatClampNeg = K 48 0 then (-1 : Int32) else nI 0)) := by
  refine vd_entI (by decide) (Nat.le_of_ble_eq_true rfl) (lv := [(0, .ref (ad 35)), (1, .int x)]) rfl ?_
  intro p e s m args below meth cd ls Q CX hl H locs HW RET
  have hx := CX.1
  have hb := CX.2.1
  refine lv_iload_n hx hb d_M_remove_0 rfl (lv_at hl 1 rfl) ?_
  refine lv_iconst (v := (nI 0)) hx hb d_M_remove_1 (by decide) ?_
  refine lv_iconst (v := (nI 5)) hx hb d_M_remove_2 (by decide) ?_
  refine vd_callSi (As := [.int x, .int (nI 0), .int (nI 5)]) (rest := []) CX HW (j_in l D ad K x 0 5 (by omega) (by omega)) mo_M_in wt_M_in ml_M_42 rfl rfl ⟨Nat.le_of_ble_eq_true rfl, Nat.le_of_ble_eq_true rfl⟩ hl.1 (Nat.le_of_ble_eq_true rfl) d_M_remove_3 ⟨Nat.zero_le _, Nat.zero_le _⟩ (fun r1 K2 H locs q3 HW => ?_)
  obtain ⟨rfl, rfl⟩ := q3
  refine vd_ifb_eq (tgt := 26) hx hb d_M_remove_6 (by decide) (fun c_6 => ?_) (fun c_6 => ?_)
  · refine lv_iconst (v := (-1 : Int32)) hx hb d_M_remove_26 (by decide) ?_
    exact RET _ _ _ _ _ _ d_M_remove_27 (by first | (have h90 : vd_thM K (nI f) = false ∨ f = K 48 0 := (by exact Or.inr c_23); rw [nI_clamp (show f < 2 ^ 31 by omega)]; rw [if_pos h90, if_pos h90]; exact ⟨rfl, rfl⟩) | (have h90 : vd_thM K (nI f) = false ∨ f = K 48 0 := (by refine Or.inl ?_; unfold vd_thM; rw [c_6, nI_clamp (show f < 2 ^ 31 by omega), c_15]; rfl); rw [nI_clamp (show f < 2 ^ 31 by omega)]; rw [if_pos h90, if_pos h90]; exact ⟨rfl, rfl⟩) | (have h90 : vd_thM K x = false ∨ x.toNatClampNeg = K 48 0 := (by refine Or.inl ?_; unfold vd_thM; rw [c_6]; rfl); rw [if_pos h90, if_pos h90]; exact ⟨rfl, rfl⟩)) HW
  · obtain ⟨f, hf1, hf2, rfl⟩ := vd_in_t c_6
    refine lv_aload_n hx hb d_M_remove_9 rfl (lv_at hl 0 rfl) ?_
    refine vg_35_branch CX HW lk_M_23 d_M_remove_10 ?_
    refine lv_iload_n hx hb d_M_remove_13 rfl (lv_at hl 1 rfl) ?_
    refine vd_iald CX HW (j := 18) (i := f) rfl (show f < 6 by omega) d_M_remove_14 (fun b4 => ?_)
    have b4 : K 18 f ≤ 30 := b4
    refine vd_if_eq (tgt := 26) hx hb d_M_remove_15 (by decide) (by omega) (fun c_15 => ?_) (fun c_15 => ?_)
    · refine lv_iconst (v := (-1 : Int32)) hx hb d_M_remove_26 (by decide) ?_
      exact RET _ _ _ _ _ _ d_M_remove_27 (by first | (have h90 : vd_thM K (nI f) = false ∨ f = K 48 0 := (by exact Or.inr c_23); rw [nI_clamp (show f < 2 ^ 31 by omega)]; rw [if_pos h90, if_pos h90]; exact ⟨rfl, rfl⟩) | (have h90 : vd_thM K (nI f) = false ∨ f = K 48 0 := (by refine Or.inl ?_; unfold vd_thM; rw [c_6, nI_clamp (show f < 2 ^ 31 by omega), c_15]; rfl); rw [nI_clamp (show f < 2 ^ 31 by omega)]; rw [if_pos h90, if_pos h90]; exact ⟨rfl, rfl⟩) | (have h90 : vd_thM K x = false ∨ x.toNatClampNeg = K 48 0 := (by refine Or.inl ?_; unfold vd_thM; rw [c_6]; rfl); rw [if_pos h90, if_pos h90]; exact ⟨rfl, rfl⟩)) HW
    · refine lv_iload_n hx hb d_M_remove_18 rfl (lv_at hl 1 rfl) ?_
      refine lv_aload_n hx hb d_M_remove_19 rfl (lv_at hl 0 rfl) ?_
      refine vg_35_head CX HW lk_M_38 d_M_remove_20 (fun b5 => ?_)
      have b5 : K 48 0 ≤ 5 := b5
      refine vd_icmp_ne (tgt := 28) hx hb d_M_remove_23 (by decide) (by omega) (by omega) (fun c_23 => ?_) (fun c_23 => ?_)
      · refine lv_aload_n hx hb d_M_remove_28 rfl (lv_at hl 0 rfl) ?_
        refine vg_35_branch CX HW lk_M_23 d_M_remove_29 ?_
        refine lv_iload_n hx hb d_M_remove_32 rfl (lv_at hl 1 rfl) ?_
        refine lv_iconst (v := (nI 0)) hx hb d_M_remove_33 (by decide) ?_
        refine vd_iast CX HW (j := 18) (i := f) (x := 0) rfl (show f < 6 by omega) (show 0 ≤ 30 by omega) d_M_remove_34 (fun K6 H locs eK6 HW => ?_)
        refine lv_iconst (v := (nI 0)) hx hb d_M_remove_35 (by decide) ?_
        exact RET _ _ _ _ _ _ d_M_remove_36 (by have c_t : vd_thM K (nI f) = true := (by unfold vd_thM; rw [c_6, nI_clamp (show f < 2 ^ 31 by omega), vd_bne c_15]; rfl); have h90 : ¬ (vd_thM K (nI f) = false ∨ f = K 48 0) := (by rw [c_t]; simp [c_23]); rw [nI_clamp (show f < 2 ^ 31 by omega)]; rw [if_neg h90, if_neg h90]; subst_vars; exact ⟨rfl, rfl⟩) HW
      · refine lv_iconst (v := (-1 : Int32)) hx hb d_M_remove_26 (by decide) ?_
        exact RET _ _ _ _ _ _ d_M_remove_27 (by first | (have h90 : vd_thM K (nI f) = false ∨ f = K 48 0 := (by exact Or.inr c_23); rw [nI_clamp (show f < 2 ^ 31 by omega)]; rw [if_pos h90, if_pos h90]; exact ⟨rfl, rfl⟩) | (have h90 : vd_thM K (nI f) = false ∨ f = K 48 0 := (by refine Or.inl ?_; unfold vd_thM; rw [c_6, nI_clamp (show f < 2 ^ 31 by omega), c_15]; rfl); rw [nI_clamp (show f < 2 ^ 31 by omega)]; rw [if_pos h90, if_pos h90]; exact ⟨rfl, rfl⟩) | (have h90 : vd_thM K x = false ∨ x.toNatClampNeg = K 48 0 := (by refine Or.inl ?_; unfold vd_thM; rw [c_6]; rfl); rw [if_pos h90, if_pos h90]; exact ⟨rfl, rfl⟩)) HW
set_option maxHeartbeats 1000000 in
set_option maxRecDepth 100000 in
theorem j_content (l : Launch) (D : va_G) (ad : Nat → Nat) (K : KT) (w : Int32) (x : Int32)  : vd_MI l y_M_content c_M_content 3 (some .int) 1 22 D ad [.ref (ad 35), .int w, .int x] K (fun (ans : Int32) (K' : KT) => K = K' ∧ ans = (if (vd_in 0 1 w && vd_in 0 15 x) = true then nI (K 14 (16 * (31 + w.toNatClampNeg) + x.toNatClampNeg)) else (-1 : Int32))) := by
  refine vd_entI (by decide) (Nat.le_of_ble_eq_true rfl) (lv := [(0, .ref (ad 35)), (1, .int w), (2, .int x)]) rfl ?_
  intro p e s m args below meth cd ls Q CX hl H locs HW RET
  have hx := CX.1
  have hb := CX.2.1
  refine lv_iload_n hx hb d_M_content_0 rfl (lv_at hl 1 rfl) ?_
  refine lv_iconst (v := (nI 0)) hx hb d_M_content_1 (by decide) ?_
  refine lv_iconst (v := (nI 1)) hx hb d_M_content_2 (by decide) ?_
  refine vd_callSi (As := [.int w, .int (nI 0), .int (nI 1)]) (rest := []) CX HW (j_in l D ad K w 0 1 (by omega) (by omega)) mo_M_in wt_M_in ml_M_42 rfl rfl ⟨Nat.le_of_ble_eq_true rfl, Nat.le_of_ble_eq_true rfl⟩ hl.1 (Nat.le_of_ble_eq_true rfl) d_M_content_3 ⟨Nat.zero_le _, Nat.zero_le _⟩ (fun r1 K2 H locs q3 HW => ?_)
  obtain ⟨rfl, rfl⟩ := q3
  refine vd_ifb_eq (tgt := 36) hx hb d_M_content_6 (by decide) (fun c_6 => ?_) (fun c_6 => ?_)
  · refine lv_iconst (v := (-1 : Int32)) hx hb d_M_content_36 (by decide) ?_
    exact RET _ _ _ _ _ _ d_M_content_37 (by first | (have h90 : ¬ ((vd_in 0 1 (nI g) && vd_in 0 15 x) = true) := (by rw [c_16]; simp); rw [if_neg h90]; exact ⟨rfl, rfl⟩) | (have h90 : ¬ ((vd_in 0 1 w && vd_in 0 15 x) = true) := (by rw [c_6]; simp); rw [if_neg h90]; exact ⟨rfl, rfl⟩)) HW
  · obtain ⟨g, hg1, hg2, rfl⟩ := vd_in_t c_6
    refine lv_iload_n hx hb d_M_content_9 rfl (lv_at hl 2 rfl) ?_
    refine lv_iconst (v := (nI 0)) hx hb d_M_content_10 (by decide) ?_
    refine lv_bipush (v := (nI 15)) hx hb d_M_content_11 (by decide) ?_
    refine vd_callSi (As := [.int x, .int (nI 0), .int (nI 15)]) (rest := []) CX HW (j_in l D ad K x 0 15 (by omega) (by omega)) mo_M_in wt_M_in ml_M_42 rfl rfl ⟨Nat.le_of_ble_eq_true rfl, Nat.le_of_ble_eq_true rfl⟩ hl.1 (Nat.le_of_ble_eq_true rfl) d_M_content_13 ⟨Nat.zero_le _, Nat.zero_le _⟩ (fun r4 K5 H locs q6 HW => ?_)
    obtain ⟨rfl, rfl⟩ := q6
    refine vd_ifb_eq (tgt := 36) hx hb d_M_content_16 (by decide) (fun c_16 => ?_) (fun c_16 => ?_)
    · refine lv_iconst (v := (-1 : Int32)) hx hb d_M_content_36 (by decide) ?_
      exact RET _ _ _ _ _ _ d_M_content_37 (by first | (have h90 : ¬ ((vd_in 0 1 (nI g) && vd_in 0 15 x) = true) := (by rw [c_16]; simp); rw [if_neg h90]; exact ⟨rfl, rfl⟩) | (have h90 : ¬ ((vd_in 0 1 w && vd_in 0 15 x) = true) := (by rw [c_6]; simp); rw [if_neg h90]; exact ⟨rfl, rfl⟩)) HW
    · obtain ⟨f, hf1, hf2, rfl⟩ := vd_in_t c_16
      refine lv_aload_n hx hb d_M_content_19 rfl (lv_at hl 0 rfl) ?_
      refine vg_35_content CX HW lk_M_7 d_M_content_20 ?_
      refine lv_bipush (v := (nI 16)) hx hb d_M_content_23 (by decide) ?_
      refine lv_bipush (v := (nI 31)) hx hb d_M_content_25 (by decide) ?_
      refine lv_iload_n hx hb d_M_content_27 rfl (lv_at hl 1 rfl) ?_
      refine vd_iadd hx hb d_M_content_28 ?_
      refine vd_imul hx hb d_M_content_29 ?_
      refine lv_iload_n hx hb d_M_content_30 rfl (lv_at hl 2 rfl) ?_
      refine vd_iadd hx hb d_M_content_31 ?_
      refine vd_iald CX HW (j := 14) (i := ((16 * (31 + g)) + f)) rfl (show (16 * (31 + g)) + f < 544 by omega) d_M_content_32 (fun b7 => ?_)
      have b7 : K 14 ((16 * (31 + g)) + f) ≤ 9999 := b7
      refine lv_goto (tgt := 37) hx hb d_M_content_33 (by decide) ?_
      exact RET _ _ _ _ _ _ d_M_content_37 (by have h90 : (vd_in 0 1 (nI g) && vd_in 0 15 (nI f)) = true := (by rw [c_6, c_16]; rfl); rw [nI_clamp (show f < 2 ^ 31 by omega)]; rw [nI_clamp (show g < 2 ^ 31 by omega)]; rw [if_pos h90]; exact ⟨rfl, rfl⟩) HW
set_option maxHeartbeats 1000000 in
set_option maxRecDepth 100000 in
theorem j_at (l : Launch) (D : va_G) (ad : Nat → Nat) (K : KT) (x : Int32) (y : Int32)  : vd_MI l y_M_at c_M_at 3 (some .int) 2 43 D ad [.ref (ad 35), .int x, .int y] K (fun (ans : Int32) (K' : KT) => K = K' ∧ ans = (if (vd_stoM K x && vd_in 0 15 y) = true then nI (K 14 (16 * x.toNatClampNeg + y.toNatClampNeg)) else (-1 : Int32))) := by
  refine vd_entI (by decide) (Nat.le_of_ble_eq_true rfl) (lv := [(0, .ref (ad 35)), (1, .int x), (2, .int y)]) rfl ?_
  intro p e s m args below meth cd ls Q CX hl H locs HW RET
  have hx := CX.1
  have hb := CX.2.1
  refine lv_aload_n hx hb d_M_at_0 rfl (lv_at hl 0 rfl) ?_
  refine lv_iload_n hx hb d_M_at_1 rfl (lv_at hl 1 rfl) ?_
  refine vd_callVi (As := [.int x]) (rest := []) CX HW (j_isStored l D ad K x) mo_M_isStored wi_M_isStored ws_M_isStored (vr_35 CX HW) ml_M_90 rfl rfl ⟨Nat.le_of_ble_eq_true rfl, Nat.le_of_ble_eq_true rfl⟩ hl.1 (Nat.le_of_ble_eq_true rfl) d_M_at_2 ⟨Nat.zero_le _, Nat.zero_le _⟩ (fun r1 K2 H locs q3 HW => ?_)
  obtain ⟨rfl, rfl⟩ := q3
  refine vd_ifb_eq (tgt := 32) hx hb d_M_at_5 (by decide) (fun c_5 => ?_) (fun c_5 => ?_)
  · refine lv_iconst (v := (-1 : Int32)) hx hb d_M_at_32 (by decide) ?_
    exact RET _ _ _ _ _ _ d_M_at_33 (by first | (have h90 : ¬ ((vd_stoM K (nI f) && vd_in 0 15 y) = true) := (by rw [c_15]; simp); rw [if_neg h90]; exact ⟨rfl, rfl⟩) | (have h90 : ¬ ((vd_stoM K x && vd_in 0 15 y) = true) := (by rw [c_5]; simp); rw [if_neg h90]; exact ⟨rfl, rfl⟩)) HW
  · obtain ⟨f, hf1, hf2, rfl, hf3⟩ := vd_stoM_t c_5
    refine lv_iload_n hx hb d_M_at_8 rfl (lv_at hl 2 rfl) ?_
    refine lv_iconst (v := (nI 0)) hx hb d_M_at_9 (by decide) ?_
    refine lv_bipush (v := (nI 15)) hx hb d_M_at_10 (by decide) ?_
    refine vd_callSi (As := [.int y, .int (nI 0), .int (nI 15)]) (rest := []) CX HW (j_in l D ad K y 0 15 (by omega) (by omega)) mo_M_in wt_M_in ml_M_42 rfl rfl ⟨Nat.le_of_ble_eq_true rfl, Nat.le_of_ble_eq_true rfl⟩ hl.1 (Nat.le_of_ble_eq_true rfl) d_M_at_12 ⟨Nat.zero_le _, Nat.zero_le _⟩ (fun r4 K5 H locs q6 HW => ?_)
    obtain ⟨rfl, rfl⟩ := q6
    refine vd_ifb_eq (tgt := 32) hx hb d_M_at_15 (by decide) (fun c_15 => ?_) (fun c_15 => ?_)
    · refine lv_iconst (v := (-1 : Int32)) hx hb d_M_at_32 (by decide) ?_
      exact RET _ _ _ _ _ _ d_M_at_33 (by first | (have h90 : ¬ ((vd_stoM K (nI f) && vd_in 0 15 y) = true) := (by rw [c_15]; simp); rw [if_neg h90]; exact ⟨rfl, rfl⟩) | (have h90 : ¬ ((vd_stoM K x && vd_in 0 15 y) = true) := (by rw [c_5]; simp); rw [if_neg h90]; exact ⟨rfl, rfl⟩)) HW
    · obtain ⟨g, hg1, hg2, rfl⟩ := vd_in_t c_15
      refine lv_aload_n hx hb d_M_at_18 rfl (lv_at hl 0 rfl) ?_
      refine vg_35_content CX HW lk_M_7 d_M_at_19 ?_
      refine lv_bipush (v := (nI 16)) hx hb d_M_at_22 (by decide) ?_
      refine lv_iload_n hx hb d_M_at_24 rfl (lv_at hl 1 rfl) ?_
      refine vd_imul hx hb d_M_at_25 ?_
      refine lv_iload_n hx hb d_M_at_26 rfl (lv_at hl 2 rfl) ?_
      refine vd_iadd hx hb d_M_at_27 ?_
      refine vd_iald CX HW (j := 14) (i := ((16 * f) + g)) rfl (show (16 * f) + g < 544 by omega) d_M_at_28 (fun b7 => ?_)
      have b7 : K 14 ((16 * f) + g) ≤ 9999 := b7
      refine lv_goto (tgt := 33) hx hb d_M_at_29 (by decide) ?_
      exact RET _ _ _ _ _ _ d_M_at_33 (by have h90 : (vd_stoM K (nI f) && vd_in 0 15 (nI g)) = true := (by rw [c_5, c_15]; rfl); rw [nI_clamp (show f < 2 ^ 31 by omega)]; rw [nI_clamp (show g < 2 ^ 31 by omega)]; rw [if_pos h90]; exact ⟨rfl, rfl⟩) HW
set_option maxHeartbeats 1000000 in
set_option maxRecDepth 100000 in
theorem j_parent (l : Launch) (D : va_G) (ad : Nat → Nat) (K : KT) (x : Int32) (y : Int32)  : vd_MI l y_M_parent c_M_parent 3 (some .int) 2 43 D ad [.ref (ad 35), .int x, .int y] K (fun (ans : Int32) (K' : KT) => K = K' ∧ ans = (if (vd_stoM K x && vd_in 0 1 y) = true then nI (if y.toNatClampNeg = 0 then K 16 x.toNatClampNeg else K 17 x.toNatClampNeg) else (-1 : Int32))) := by
  refine vd_entI (by decide) (Nat.le_of_ble_eq_true rfl) (lv := [(0, .ref (ad 35)), (1, .int x), (2, .int y)]) rfl ?_
  intro p e s m args below meth cd ls Q CX hl H locs HW RET
  have hx := CX.1
  have hb := CX.2.1
  refine lv_aload_n hx hb d_M_parent_0 rfl (lv_at hl 0 rfl) ?_
  refine lv_iload_n hx hb d_M_parent_1 rfl (lv_at hl 1 rfl) ?_
  refine vd_callVi (As := [.int x]) (rest := []) CX HW (j_isStored l D ad K x) mo_M_isStored wi_M_isStored ws_M_isStored (vr_35 CX HW) ml_M_90 rfl rfl ⟨Nat.le_of_ble_eq_true rfl, Nat.le_of_ble_eq_true rfl⟩ hl.1 (Nat.le_of_ble_eq_true rfl) d_M_parent_2 ⟨Nat.zero_le _, Nat.zero_le _⟩ (fun r1 K2 H locs q3 HW => ?_)
  obtain ⟨rfl, rfl⟩ := q3
  refine vd_ifb_eq (tgt := 17) hx hb d_M_parent_5 (by decide) (fun c_5 => ?_) (fun c_5 => ?_)
  · refine lv_iconst (v := (-1 : Int32)) hx hb d_M_parent_17 (by decide) ?_
    refine lv_goto (tgt := 40) hx hb d_M_parent_18 (by decide) ?_
    exact RET _ _ _ _ _ _ d_M_parent_40 (by first | (have h90 : ¬ ((vd_stoM K (nI f) && vd_in 0 1 y) = true) := (by rw [c_14]; simp); rw [if_neg h90]; exact ⟨rfl, rfl⟩) | (have h90 : ¬ ((vd_stoM K x && vd_in 0 1 y) = true) := (by rw [c_5]; simp); rw [if_neg h90]; exact ⟨rfl, rfl⟩)) HW
  · obtain ⟨f, hf1, hf2, rfl, hf3⟩ := vd_stoM_t c_5
    refine lv_iload_n hx hb d_M_parent_8 rfl (lv_at hl 2 rfl) ?_
    refine lv_iconst (v := (nI 0)) hx hb d_M_parent_9 (by decide) ?_
    refine lv_iconst (v := (nI 1)) hx hb d_M_parent_10 (by decide) ?_
    refine vd_callSi (As := [.int y, .int (nI 0), .int (nI 1)]) (rest := []) CX HW (j_in l D ad K y 0 1 (by omega) (by omega)) mo_M_in wt_M_in ml_M_42 rfl rfl ⟨Nat.le_of_ble_eq_true rfl, Nat.le_of_ble_eq_true rfl⟩ hl.1 (Nat.le_of_ble_eq_true rfl) d_M_parent_11 ⟨Nat.zero_le _, Nat.zero_le _⟩ (fun r4 K5 H locs q6 HW => ?_)
    obtain ⟨rfl, rfl⟩ := q6
    refine vd_ifb_ne (tgt := 21) hx hb d_M_parent_14 (by decide) (fun c_14 => ?_) (fun c_14 => ?_)
    · obtain ⟨g, hg1, hg2, rfl⟩ := vd_in_t c_14
      refine lv_iload_n hx hb d_M_parent_21 rfl (lv_at hl 2 rfl) ?_
      refine vd_if_ne (tgt := 34) hx hb d_M_parent_22 (by decide) (by omega) (fun c_22 => ?_) (fun c_22 => ?_)
      · refine lv_aload_n hx hb d_M_parent_34 rfl (lv_at hl 0 rfl) ?_
        refine vg_35_second CX HW lk_M_20 d_M_parent_35 ?_
        refine lv_iload_n hx hb d_M_parent_38 rfl (lv_at hl 1 rfl) ?_
        refine vd_iald CX HW (j := 17) (i := f) rfl (show f < 31 by omega) d_M_parent_39 (fun b7 => ?_)
        have b7 : K 17 f ≤ 30 := b7
        exact RET _ _ _ _ _ _ d_M_parent_40 (by have h90 : (vd_stoM K (nI f) && vd_in 0 1 (nI g)) = true := (by rw [c_5, c_14]; rfl); rw [nI_clamp (show f < 2 ^ 31 by omega)]; rw [nI_clamp (show g < 2 ^ 31 by omega)]; rw [if_pos h90]; first | (rw [if_pos c_22]; exact ⟨rfl, rfl⟩) | (rw [if_neg c_22]; exact ⟨rfl, rfl⟩)) HW
      · refine lv_aload_n hx hb d_M_parent_25 rfl (lv_at hl 0 rfl) ?_
        refine vg_35_first CX HW lk_M_17 d_M_parent_26 ?_
        refine lv_iload_n hx hb d_M_parent_29 rfl (lv_at hl 1 rfl) ?_
        refine vd_iald CX HW (j := 16) (i := f) rfl (show f < 31 by omega) d_M_parent_30 (fun b8 => ?_)
        have b8 : K 16 f ≤ 30 := b8
        refine lv_goto (tgt := 40) hx hb d_M_parent_31 (by decide) ?_
        exact RET _ _ _ _ _ _ d_M_parent_40 (by have h90 : (vd_stoM K (nI f) && vd_in 0 1 (nI g)) = true := (by rw [c_5, c_14]; rfl); rw [nI_clamp (show f < 2 ^ 31 by omega)]; rw [nI_clamp (show g < 2 ^ 31 by omega)]; rw [if_pos h90]; first | (rw [if_pos c_22]; exact ⟨rfl, rfl⟩) | (rw [if_neg c_22]; exact ⟨rfl, rfl⟩)) HW
    · refine lv_iconst (v := (-1 : Int32)) hx hb d_M_parent_17 (by decide) ?_
      refine lv_goto (tgt := 40) hx hb d_M_parent_18 (by decide) ?_
      exact RET _ _ _ _ _ _ d_M_parent_40 (by first | (have h90 : ¬ ((vd_stoM K (nI f) && vd_in 0 1 y) = true) := (by rw [c_14]; simp); rw [if_neg h90]; exact ⟨rfl, rfl⟩) | (have h90 : ¬ ((vd_stoM K x && vd_in 0 1 y) = true) := (by rw [c_5]; simp); rw [if_neg h90]; exact ⟨rfl, rfl⟩)) HW
set_option maxHeartbeats 1000000 in
set_option maxRecDepth 100000 in
theorem j_branchAt (l : Launch) (D : va_G) (ad : Nat → Nat) (K : KT) (x : Int32)  : vd_MI l y_M_branchAt c_M_branchAt 2 (some .int) 1 22 D ad [.ref (ad 35), .int x] K (fun (ans : Int32) (K' : KT) => K = K' ∧ ans = (if vd_in 0 5 x = true then nI (K 18 x.toNatClampNeg) else (-1 : Int32))) := by
  refine vd_entI (by decide) (Nat.le_of_ble_eq_true rfl) (lv := [(0, .ref (ad 35)), (1, .int x)]) rfl ?_
  intro p e s m args below meth cd ls Q CX hl H locs HW RET
  have hx := CX.1
  have hb := CX.2.1
  refine lv_iload_n hx hb d_M_branchAt_0 rfl (lv_at hl 1 rfl) ?_
  refine lv_iconst (v := (nI 0)) hx hb d_M_branchAt_1 (by decide) ?_
  refine lv_iconst (v := (nI 5)) hx hb d_M_branchAt_2 (by decide) ?_
  refine vd_callSi (As := [.int x, .int (nI 0), .int (nI 5)]) (rest := []) CX HW (j_in l D ad K x 0 5 (by omega) (by omega)) mo_M_in wt_M_in ml_M_42 rfl rfl ⟨Nat.le_of_ble_eq_true rfl, Nat.le_of_ble_eq_true rfl⟩ hl.1 (Nat.le_of_ble_eq_true rfl) d_M_branchAt_3 ⟨Nat.zero_le _, Nat.zero_le _⟩ (fun r1 K2 H locs q3 HW => ?_)
  obtain ⟨rfl, rfl⟩ := q3
  refine vd_ifb_eq (tgt := 18) hx hb d_M_branchAt_6 (by decide) (fun c_6 => ?_) (fun c_6 => ?_)
  · refine lv_iconst (v := (-1 : Int32)) hx hb d_M_branchAt_18 (by decide) ?_
    exact RET _ _ _ _ _ _ d_M_branchAt_19 (by have h90 : ¬ (vd_in 0 5 x = true) := (by rw [c_6]; decide); rw [if_neg h90]; exact ⟨rfl, rfl⟩) HW
  · obtain ⟨f, hf1, hf2, rfl⟩ := vd_in_t c_6
    refine lv_aload_n hx hb d_M_branchAt_9 rfl (lv_at hl 0 rfl) ?_
    refine vg_35_branch CX HW lk_M_23 d_M_branchAt_10 ?_
    refine lv_iload_n hx hb d_M_branchAt_13 rfl (lv_at hl 1 rfl) ?_
    refine vd_iald CX HW (j := 18) (i := f) rfl (show f < 6 by omega) d_M_branchAt_14 (fun b4 => ?_)
    have b4 : K 18 f ≤ 30 := b4
    refine lv_goto (tgt := 19) hx hb d_M_branchAt_15 (by decide) ?_
    exact RET _ _ _ _ _ _ d_M_branchAt_19 (by rw [if_pos c_6, nI_clamp (show f < 2 ^ 31 by omega)]; exact ⟨rfl, rfl⟩) HW
set_option maxHeartbeats 1000000 in
set_option maxRecDepth 100000 in
theorem j_common (l : Launch) (D : va_G) (ad : Nat → Nat) (K : KT) (x : Int32) (y : Int32)  : vd_MI l y_M_common c_M_common 3 (some .int) 2 46 D ad [.ref (ad 35), .int x, .int y] K (fun (ans : Int32) (K' : KT) => K' = (if (vd_stoM K x && vd_stoM K y) = true then vd_shK K x.toNatClampNeg y.toNatClampNeg else K) ∧ ans = (if (vd_stoM K x && vd_stoM K y) = true then nI (vd_shr K x.toNatClampNeg y.toNatClampNeg) else (-1 : Int32))) := by
  refine vd_entI (by decide) (Nat.le_of_ble_eq_true rfl) (lv := [(0, .ref (ad 35)), (1, .int x), (2, .int y)]) rfl ?_
  intro p e s m args below meth cd ls Q CX hl H locs HW RET
  have hx := CX.1
  have hb := CX.2.1
  refine lv_aload_n hx hb d_M_common_0 rfl (lv_at hl 0 rfl) ?_
  refine lv_iload_n hx hb d_M_common_1 rfl (lv_at hl 1 rfl) ?_
  refine vd_callVi (As := [.int x]) (rest := []) CX HW (j_isStored l D ad K x) mo_M_isStored wi_M_isStored ws_M_isStored (vr_35 CX HW) ml_M_90 rfl rfl ⟨Nat.le_of_ble_eq_true rfl, Nat.le_of_ble_eq_true rfl⟩ hl.1 (Nat.le_of_ble_eq_true rfl) d_M_common_2 ⟨Nat.zero_le _, Nat.zero_le _⟩ (fun r1 K2 H locs q3 HW => ?_)
  obtain ⟨rfl, rfl⟩ := q3
  refine vd_ifb_eq (tgt := 25) hx hb d_M_common_5 (by decide) (fun c_5 => ?_) (fun c_5 => ?_)
  · refine lv_iconst (v := (-1 : Int32)) hx hb d_M_common_25 (by decide) ?_
    exact RET _ _ _ _ _ _ d_M_common_26 (by first | (have h90 : ¬ ((vd_stoM K (nI f) && vd_stoM K y) = true) := (by rw [c_13]; simp); rw [if_neg h90, if_neg h90]; exact ⟨rfl, rfl⟩) | (have h90 : ¬ ((vd_stoM K x && vd_stoM K y) = true) := (by rw [c_5]; simp); rw [if_neg h90, if_neg h90]; exact ⟨rfl, rfl⟩)) HW
  · obtain ⟨f, hf1, hf2, rfl, hf3⟩ := vd_stoM_t c_5
    refine lv_aload_n hx hb d_M_common_8 rfl (lv_at hl 0 rfl) ?_
    refine lv_iload_n hx hb d_M_common_9 rfl (lv_at hl 2 rfl) ?_
    refine vd_callVi (As := [.int y]) (rest := []) CX HW (j_isStored l D ad K y) mo_M_isStored wi_M_isStored ws_M_isStored (vr_35 CX HW) ml_M_90 rfl rfl ⟨Nat.le_of_ble_eq_true rfl, Nat.le_of_ble_eq_true rfl⟩ hl.1 (Nat.le_of_ble_eq_true rfl) d_M_common_10 ⟨Nat.zero_le _, Nat.zero_le _⟩ (fun r4 K5 H locs q6 HW => ?_)
    obtain ⟨rfl, rfl⟩ := q6
    refine vd_ifb_eq (tgt := 25) hx hb d_M_common_13 (by decide) (fun c_13 => ?_) (fun c_13 => ?_)
    · refine lv_iconst (v := (-1 : Int32)) hx hb d_M_common_25 (by decide) ?_
      exact RET _ _ _ _ _ _ d_M_common_26 (by first | (have h90 : ¬ ((vd_stoM K (nI f) && vd_stoM K y) = true) := (by rw [c_13]; simp); rw [if_neg h90, if_neg h90]; exact ⟨rfl, rfl⟩) | (have h90 : ¬ ((vd_stoM K x && vd_stoM K y) = true) := (by rw [c_5]; simp); rw [if_neg h90, if_neg h90]; exact ⟨rfl, rfl⟩)) HW
    · obtain ⟨g, hg1, hg2, rfl, hg3⟩ := vd_stoM_t c_13
      refine lv_aload_n hx hb d_M_common_16 rfl (lv_at hl 0 rfl) ?_
      refine lv_iload_n hx hb d_M_common_17 rfl (lv_at hl 1 rfl) ?_
      refine lv_iload_n hx hb d_M_common_18 rfl (lv_at hl 2 rfl) ?_
      refine vd_callVi (As := [.int (nI f), .int (nI g)]) (rest := []) CX HW (j_shared l D ad K f g (by omega) (by omega)) mo_M_shared wi_M_shared ws_M_shared (vr_35 CX HW) ml_M_82 rfl rfl ⟨Nat.le_of_ble_eq_true rfl, Nat.le_of_ble_eq_true rfl⟩ hl.1 (Nat.le_of_ble_eq_true rfl) d_M_common_19 ⟨Nat.zero_le _, Nat.zero_le _⟩ (fun r7 K8 H locs q9 HW => ?_)
      obtain ⟨eK8, rfl, b10⟩ := q9
      have b10 : vd_shr K f g ≤ 30 := b10
      refine lv_goto (tgt := 26) hx hb d_M_common_22 (by decide) ?_
      exact RET _ _ _ _ _ _ d_M_common_26 (by have h90 : (vd_stoM K (nI f) && vd_stoM K (nI g)) = true := (by rw [c_5, c_13]; rfl); rw [nI_clamp (show f < 2 ^ 31 by omega)]; rw [nI_clamp (show g < 2 ^ 31 by omega)]; rw [if_pos h90, if_pos h90]; subst_vars; exact ⟨rfl, rfl⟩) HW
set_option maxHeartbeats 1000000 in
set_option maxRecDepth 100000 in
theorem j_differ (l : Launch) (D : va_G) (ad : Nat → Nat) (K : KT) (x : Int32) (y : Int32)  : vd_MI l y_M_differ c_M_differ 5 (some .int) 2 43 D ad [.ref (ad 35), .int x, .int y] K (fun (ans : Int32) (K' : KT) => K = K' ∧ ans = (if (vd_stoM K x && vd_stoM K y) = true then nI (vd_cn (fun q => K 14 (16 * x.toNatClampNeg + q) != K 14 (16 * y.toNatClampNeg + q)) 16) else (-1 : Int32))) := by
  refine vd_entI (by decide) (Nat.le_of_ble_eq_true rfl) (lv := [(0, .ref (ad 35)), (1, .int x), (2, .int y)]) rfl ?_
  intro p e s m args below meth cd ls Q CX hl H locs HW RET
  have hx := CX.1
  have hb := CX.2.1
  refine lv_aload_n hx hb d_M_differ_0 rfl (lv_at hl 0 rfl) ?_
  refine lv_iload_n hx hb d_M_differ_1 rfl (lv_at hl 1 rfl) ?_
  refine vd_callVi (As := [.int x]) (rest := []) CX HW (j_isStored l D ad K x) mo_M_isStored wi_M_isStored ws_M_isStored (vr_35 CX HW) ml_M_90 rfl rfl ⟨Nat.le_of_ble_eq_true rfl, Nat.le_of_ble_eq_true rfl⟩ hl.1 (Nat.le_of_ble_eq_true rfl) d_M_differ_2 ⟨Nat.zero_le _, Nat.zero_le _⟩ (fun r1 K2 H locs q3 HW => ?_)
  obtain ⟨rfl, rfl⟩ := q3
  refine vd_ifb_eq (tgt := 16) hx hb d_M_differ_5 (by decide) (fun c_5 => ?_) (fun c_5 => ?_)
  · refine lv_iconst (v := (-1 : Int32)) hx hb d_M_differ_16 (by decide) ?_
    exact RET _ _ _ _ _ _ d_M_differ_17 (by first | (have h90 : ¬ ((vd_stoM K (nI f) && vd_stoM K y) = true) := (by rw [c_13]; simp); rw [if_neg h90]; exact ⟨rfl, rfl⟩) | (have h90 : ¬ ((vd_stoM K x && vd_stoM K y) = true) := (by rw [c_5]; simp); rw [if_neg h90]; exact ⟨rfl, rfl⟩)) HW
  · obtain ⟨f, hf1, hf2, rfl, hf3⟩ := vd_stoM_t c_5
    refine lv_aload_n hx hb d_M_differ_8 rfl (lv_at hl 0 rfl) ?_
    refine lv_iload_n hx hb d_M_differ_9 rfl (lv_at hl 2 rfl) ?_
    refine vd_callVi (As := [.int y]) (rest := []) CX HW (j_isStored l D ad K y) mo_M_isStored wi_M_isStored ws_M_isStored (vr_35 CX HW) ml_M_90 rfl rfl ⟨Nat.le_of_ble_eq_true rfl, Nat.le_of_ble_eq_true rfl⟩ hl.1 (Nat.le_of_ble_eq_true rfl) d_M_differ_10 ⟨Nat.zero_le _, Nat.zero_le _⟩ (fun r4 K5 H locs q6 HW => ?_)
    obtain ⟨rfl, rfl⟩ := q6
    refine vd_ifb_ne (tgt := 18) hx hb d_M_differ_13 (by decide) (fun c_13 => ?_) (fun c_13 => ?_)
    · obtain ⟨g, hg1, hg2, rfl, hg3⟩ := vd_stoM_t c_13
      refine lv_iconst (v := (nI 0)) hx hb d_M_differ_18 (by decide) ?_
      refine lv_istore_n (lv' := [(3, .int (nI 0)), (0, .ref (ad 35)), (1, .int (nI f)), (2, .int (nI g))]) hx hb d_M_differ_19 rfl hl (by decide) rfl (fun ls hl => ?_)
      refine lv_iconst (v := (nI 0)) hx hb d_M_differ_20 (by decide) ?_
      refine lv_istore (lv' := [(4, .int (nI 0)), (3, .int (nI 0)), (0, .ref (ad 35)), (1, .int (nI f)), (2, .int (nI g))]) hx hb d_M_differ_21 hl (by decide) rfl (fun ls hl => ?_)
      have loop23 : ∀ (n : Nat) (a : Nat) (i : Nat), (a = vd_cn (fun q => K 14 (16 * f + q) != K 14 (16 * g + q)) i) → (i ≤ 16) → (16 < i + n) → ∀ (H : Heap) (locs : List Loc) (ls : Array Slot), vd_WS D ad s K H locs → lv_has ls 5 [(0, .ref (ad 35)), (1, .int (nI f)), (2, .int (nI g)), (3, .int (nI a)), (4, .int (nI i))] → W p l e (vd_R 2 43) s m args below meth cd H locs 0 0 Q (F0 m 23 ls []) := by
        intro n
        induction n with
        | zero => intro a i ha hi hm; exfalso; omega
        | succ n ih23 =>
          intro a i ha hi hm H locs ls HW hl
          refine lv_iload hx hb d_M_differ_23 (lv_at hl 4 rfl) ?_
          refine lv_bipush (v := (nI 16)) hx hb d_M_differ_25 (by decide) ?_
          refine vd_icmp_ge (tgt := 66) hx hb d_M_differ_27 (by decide) (by omega) (by omega) (fun c_27 => ?_) (fun c_27 => ?_)
          · refine lv_iload_n hx hb d_M_differ_66 rfl (lv_at hl 3 rfl) ?_
            exact RET _ _ _ _ _ _ d_M_differ_67 (by have e1 : i = 16 := (by omega); subst e1; rw [ha]; have h90 : (vd_stoM K (nI f) && vd_stoM K (nI g)) = true := (by rw [c_5, c_13]; rfl); rw [nI_clamp (show f < 2 ^ 31 by omega)]; rw [nI_clamp (show g < 2 ^ 31 by omega)]; rw [if_pos h90]; exact ⟨rfl, rfl⟩) HW
          · refine lv_aload_n hx hb d_M_differ_30 rfl (lv_at hl 0 rfl) ?_
            refine vg_35_content CX HW lk_M_7 d_M_differ_31 ?_
            refine lv_bipush (v := (nI 16)) hx hb d_M_differ_34 (by decide) ?_
            refine lv_iload_n hx hb d_M_differ_36 rfl (lv_at hl 1 rfl) ?_
            refine vd_imul hx hb d_M_differ_37 ?_
            refine lv_iload hx hb d_M_differ_38 (lv_at hl 4 rfl) ?_
            refine vd_iadd hx hb d_M_differ_40 ?_
            refine vd_iald CX HW (j := 14) (i := ((16 * f) + i)) rfl (show (16 * f) + i < 544 by omega) d_M_differ_41 (fun b7 => ?_)
            have b7 : K 14 ((16 * f) + i) ≤ 9999 := b7
            refine lv_aload_n hx hb d_M_differ_42 rfl (lv_at hl 0 rfl) ?_
            refine vg_35_content CX HW lk_M_7 d_M_differ_43 ?_
            refine lv_bipush (v := (nI 16)) hx hb d_M_differ_46 (by decide) ?_
            refine lv_iload_n hx hb d_M_differ_48 rfl (lv_at hl 2 rfl) ?_
            refine vd_imul hx hb d_M_differ_49 ?_
            refine lv_iload hx hb d_M_differ_50 (lv_at hl 4 rfl) ?_
            refine vd_iadd hx hb d_M_differ_52 ?_
            refine vd_iald CX HW (j := 14) (i := ((16 * g) + i)) rfl (show (16 * g) + i < 544 by omega) d_M_differ_53 (fun b8 => ?_)
            have b8 : K 14 ((16 * g) + i) ≤ 9999 := b8
            refine vd_icmp_eq (tgt := 60) hx hb d_M_differ_54 (by decide) (by omega) (by omega) (fun c_54 => ?_) (fun c_54 => ?_)
            · refine lv_iinc (v := (nI (i + 1))) (lv' := [(4, .int (nI (i + 1))), (0, .ref (ad 35)), (1, .int (nI f)), (2, .int (nI g)), (3, .int (nI a))]) hx hb d_M_differ_60 hl (k := 4) rfl (vd_inc _ 1) (by decide) rfl (fun ls hl => ?_)
              refine lv_goto (tgt := 23) hx hb d_M_differ_63 (by decide) ?_
              exact ih23 a (i + 1) (by first | exact vd_cn_t ha (by simpa using c_54) | exact vd_cn_f ha (by simpa using c_54)) (by omega) (by omega) H locs ls HW (lv_sub hl [1, 2, 3, 4, 0] rfl)
            · refine lv_iinc (v := (nI (a + 1))) (lv' := [(3, .int (nI (a + 1))), (0, .ref (ad 35)), (1, .int (nI f)), (2, .int (nI g)), (4, .int (nI i))]) hx hb d_M_differ_57 hl (k := 3) rfl (vd_inc _ 1) (by decide) rfl (fun ls hl => ?_)
              refine lv_iinc (v := (nI (i + 1))) (lv' := [(4, .int (nI (i + 1))), (3, .int (nI (a + 1))), (0, .ref (ad 35)), (1, .int (nI f)), (2, .int (nI g))]) hx hb d_M_differ_60 hl (k := 4) rfl (vd_inc _ 1) (by decide) rfl (fun ls hl => ?_)
              refine lv_goto (tgt := 23) hx hb d_M_differ_63 (by decide) ?_
              exact ih23 (a + 1) (i + 1) (by first | exact vd_cn_t ha (by simpa using c_54) | exact vd_cn_f ha (by simpa using c_54)) (by omega) (by omega) H locs ls HW (lv_sub hl [2, 3, 4, 1, 0] rfl)
      exact loop23 17 0 0 (by rfl) (by omega) (by omega) H locs ls HW (lv_sub hl [2, 3, 4, 1, 0] rfl)
    · refine lv_iconst (v := (-1 : Int32)) hx hb d_M_differ_16 (by decide) ?_
      exact RET _ _ _ _ _ _ d_M_differ_17 (by first | (have h90 : ¬ ((vd_stoM K (nI f) && vd_stoM K y) = true) := (by rw [c_13]; simp); rw [if_neg h90]; exact ⟨rfl, rfl⟩) | (have h90 : ¬ ((vd_stoM K x && vd_stoM K y) = true) := (by rw [c_5]; simp); rw [if_neg h90]; exact ⟨rfl, rfl⟩)) HW
set_option maxHeartbeats 1000000 in
set_option maxRecDepth 100000 in
theorem j_clashing (l : Launch) (D : va_G) (ad : Nat → Nat) (K : KT) (x : Int32)  : vd_MI l y_M_clashing c_M_clashing 2 (some .boolean) 1 22 D ad [.ref (ad 35), .int x] K (fun (ans : Int32) (K' : KT) => K = K' ∧ ans = (vd_b (vd_in 0 15 x && (K 19 x.toNatClampNeg != 0)))) := by
  refine vd_entZ (by decide) (Nat.le_of_ble_eq_true rfl) (lv := [(0, .ref (ad 35)), (1, .int x)]) rfl ?_
  intro p e s m args below meth cd ls Q CX hl H locs HW RET
  have hx := CX.1
  have hb := CX.2.1
  refine lv_iload_n hx hb d_M_clashing_0 rfl (lv_at hl 1 rfl) ?_
  refine lv_iconst (v := (nI 0)) hx hb d_M_clashing_1 (by decide) ?_
  refine lv_bipush (v := (nI 15)) hx hb d_M_clashing_2 (by decide) ?_
  refine vd_callSi (As := [.int x, .int (nI 0), .int (nI 15)]) (rest := []) CX HW (j_in l D ad K x 0 15 (by omega) (by omega)) mo_M_in wt_M_in ml_M_42 rfl rfl ⟨Nat.le_of_ble_eq_true rfl, Nat.le_of_ble_eq_true rfl⟩ hl.1 (Nat.le_of_ble_eq_true rfl) d_M_clashing_4 ⟨Nat.zero_le _, Nat.zero_le _⟩ (fun r1 K2 H locs q3 HW => ?_)
  obtain ⟨rfl, rfl⟩ := q3
  refine vd_ifb_eq (tgt := 23) hx hb d_M_clashing_7 (by decide) (fun c_7 => ?_) (fun c_7 => ?_)
  · refine lv_iconst (v := (nI 0)) hx hb d_M_clashing_23 (by decide) ?_
    exact RET false _ _ _ _ _ d_M_clashing_24 (by first | (refine ⟨rfl, ?_⟩; rw [c_7, nI_clamp (show f < 2 ^ 31 by omega), c_16]; rfl) | (refine ⟨rfl, ?_⟩; rw [c_7]; rfl)) HW
  · obtain ⟨f, hf1, hf2, rfl⟩ := vd_in_t c_7
    refine lv_aload_n hx hb d_M_clashing_10 rfl (lv_at hl 0 rfl) ?_
    refine vg_35_clashing CX HW lk_M_26 d_M_clashing_11 ?_
    refine lv_iload_n hx hb d_M_clashing_14 rfl (lv_at hl 1 rfl) ?_
    refine vd_zald CX HW (j := 19) (i := f) rfl (show f < 16 by omega) d_M_clashing_15 (fun b4 => ?_)
    have b4 : K 19 f ≤ 1 := b4
    refine vd_if_eq (tgt := 23) hx hb d_M_clashing_16 (by decide) (by omega) (fun c_16 => ?_) (fun c_16 => ?_)
    · refine lv_iconst (v := (nI 0)) hx hb d_M_clashing_23 (by decide) ?_
      exact RET false _ _ _ _ _ d_M_clashing_24 (by first | (refine ⟨rfl, ?_⟩; rw [c_7, nI_clamp (show f < 2 ^ 31 by omega), c_16]; rfl) | (refine ⟨rfl, ?_⟩; rw [c_7]; rfl)) HW
    · refine lv_iconst (v := (nI 1)) hx hb d_M_clashing_19 (by decide) ?_
      refine lv_goto (tgt := 24) hx hb d_M_clashing_20 (by decide) ?_
      exact RET true _ _ _ _ _ d_M_clashing_24 (by refine ⟨rfl, ?_⟩; rw [c_7, nI_clamp (show f < 2 ^ 31 by omega), vd_bne c_16]; rfl) HW
set_option maxHeartbeats 1000000 in
set_option maxRecDepth 100000 in
theorem j_alike (l : Launch) (D : va_G) (ad : Nat → Nat) (K : KT) (a : Nat) (b : Nat) (ha : a + 4 ≤ 544) (hb2 : b + 4 ≤ 544) : vd_MI l y_M_alike c_M_alike 4 (some .boolean) 0 0 D ad [.ref (ad 35), .int (nI a), .int (nI b)] K (fun (ans : Int32) (K' : KT) => K = K' ∧ ans = (vd_b (vd_alM K a b))) := by
  refine vd_entZ (by decide) (Nat.le_of_ble_eq_true rfl) (lv := [(0, .ref (ad 35)), (1, .int (nI a)), (2, .int (nI b))]) rfl ?_
  intro p e s m args below meth cd ls Q CX hl H locs HW RET
  have hx := CX.1
  have hb := CX.2.1
  refine lv_iconst (v := (nI 0)) hx hb d_M_alike_0 (by decide) ?_
  refine lv_istore_n (lv' := [(3, .int (nI 0)), (0, .ref (ad 35)), (1, .int (nI a)), (2, .int (nI b))]) hx hb d_M_alike_1 rfl hl (by decide) rfl (fun ls hl => ?_)
  have loop2 : ∀ (n : Nat) (i : Nat), (∀ q, q < i → K 14 (a + q) = K 14 (b + q)) → (i ≤ 4) → (4 < i + n) → ∀ (H : Heap) (locs : List Loc) (ls : Array Slot), vd_WS D ad s K H locs → lv_has ls 4 [(0, .ref (ad 35)), (1, .int (nI a)), (2, .int (nI b)), (3, .int (nI i))] → W p l e (vd_R 0 0) s m args below meth cd H locs 0 0 Q (F0 m 2 ls []) := by
    intro n
    induction n with
    | zero => intro i hi hi4 hm; exfalso; omega
    | succ n ih2 =>
      intro i hi hi4 hm H locs ls HW hl
      refine lv_iload_n hx hb d_M_alike_2 rfl (lv_at hl 3 rfl) ?_
      refine lv_iconst (v := (nI 4)) hx hb d_M_alike_3 (by decide) ?_
      refine vd_icmp_ge (tgt := 34) hx hb d_M_alike_4 (by decide) (by omega) (by omega) (fun c_4 => ?_) (fun c_4 => ?_)
      · refine lv_iconst (v := (nI 1)) hx hb d_M_alike_34 (by decide) ?_
        exact RET true _ _ _ _ _ d_M_alike_35 (by (refine ⟨rfl, ?_⟩; (· rw [show vd_alM K a b = true from vd_eqn_t (fun q hq => hi q (by omega))]))) HW
      · refine lv_aload_n hx hb d_M_alike_7 rfl (lv_at hl 0 rfl) ?_
        refine vg_35_content CX HW lk_M_7 d_M_alike_8 ?_
        refine lv_iload_n hx hb d_M_alike_11 rfl (lv_at hl 1 rfl) ?_
        refine lv_iload_n hx hb d_M_alike_12 rfl (lv_at hl 3 rfl) ?_
        refine vd_iadd hx hb d_M_alike_13 ?_
        refine vd_iald CX HW (j := 14) (i := (a + i)) rfl (show a + i < 544 by omega) d_M_alike_14 (fun b1 => ?_)
        have b1 : K 14 (a + i) ≤ 9999 := b1
        refine lv_aload_n hx hb d_M_alike_15 rfl (lv_at hl 0 rfl) ?_
        refine vg_35_content CX HW lk_M_7 d_M_alike_16 ?_
        refine lv_iload_n hx hb d_M_alike_19 rfl (lv_at hl 2 rfl) ?_
        refine lv_iload_n hx hb d_M_alike_20 rfl (lv_at hl 3 rfl) ?_
        refine vd_iadd hx hb d_M_alike_21 ?_
        refine vd_iald CX HW (j := 14) (i := (b + i)) rfl (show b + i < 544 by omega) d_M_alike_22 (fun b2 => ?_)
        have b2 : K 14 (b + i) ≤ 9999 := b2
        refine vd_icmp_eq (tgt := 28) hx hb d_M_alike_23 (by decide) (by omega) (by omega) (fun c_23 => ?_) (fun c_23 => ?_)
        · refine lv_iinc (v := (nI (i + 1))) (lv' := [(3, .int (nI (i + 1))), (0, .ref (ad 35)), (1, .int (nI a)), (2, .int (nI b))]) hx hb d_M_alike_28 hl (k := 3) rfl (vd_inc _ 1) (by decide) rfl (fun ls hl => ?_)
          refine lv_goto (tgt := 2) hx hb d_M_alike_31 (by decide) ?_
          exact ih2 (i + 1) (by intro q hq; by_cases e1 : q = i; (· subst e1; exact c_23); (· exact hi q (by omega))) (by omega) (by omega) H locs ls HW (lv_sub hl [1, 2, 3, 0] rfl)
        · refine lv_iconst (v := (nI 0)) hx hb d_M_alike_26 (by decide) ?_
          exact RET false _ _ _ _ _ d_M_alike_27 (by (refine ⟨rfl, ?_⟩; (· rw [show vd_alM K a b = false from vd_eqn_f (fun h => c_23 (h i (by omega)))]))) HW
  exact loop2 5 0 (by intro q hq; omega) (by omega) (by omega) H locs ls HW (lv_sub hl [1, 2, 3, 0] rfl)
set_option maxHeartbeats 1000000 in
set_option maxRecDepth 100000 in
theorem j_roots (l : Launch) (D : va_G) (ad : Nat → Nat) (K : KT)   : vd_MI l y_M_roots c_M_roots 5 (some .int) 1 23 D ad [.ref (ad 35)] K (fun (ans : Int32) (K' : KT) => K = K' ∧ ans = (nI (vd_c2 K)) ∧ vd_c2 K ≤ 30) := by
  refine vd_entI (by decide) (Nat.le_of_ble_eq_true rfl) (lv := [(0, .ref (ad 35))]) rfl ?_
  intro p e s m args below meth cd ls Q CX hl H locs HW RET
  have hx := CX.1
  have hb := CX.2.1
  refine lv_iconst (v := (nI 0)) hx hb d_M_roots_0 (by decide) ?_
  refine lv_istore_n (lv' := [(1, .int (nI 0)), (0, .ref (ad 35))]) hx hb d_M_roots_1 rfl hl (by decide) rfl (fun ls hl => ?_)
  refine lv_iconst (v := (nI 1)) hx hb d_M_roots_2 (by decide) ?_
  refine lv_istore_n (lv' := [(2, .int (nI 1)), (1, .int (nI 0)), (0, .ref (ad 35))]) hx hb d_M_roots_3 rfl hl (by decide) rfl (fun ls hl => ?_)
  have loop4 : ∀ (n : Nat) (a : Nat) (i : Nat), (i ≤ 30) → (a = vd_cn (fun i => vd_frR K (i + 1)) i) → (30 < i + n) → ∀ (H : Heap) (locs : List Loc) (ls : Array Slot), vd_WS D ad s K H locs → lv_has ls 5 [(0, .ref (ad 35)), (1, .int (nI a)), (2, .int (nI (i + 1)))] → W p l e (vd_R 1 23) s m args below meth cd H locs 0 0 Q (F0 m 4 ls []) := by
    intro n
    induction n with
    | zero => intro a i hi ha hm; exfalso; omega
    | succ n ih4 =>
      intro a i hi ha hm H locs ls HW hl
      refine lv_iload_n hx hb d_M_roots_4 rfl (lv_at hl 2 rfl) ?_
      refine lv_bipush (v := (nI 31)) hx hb d_M_roots_5 (by decide) ?_
      refine vd_icmp_ge (tgt := 67) hx hb d_M_roots_7 (by decide) (by omega) (by omega) (fun c_7 => ?_) (fun c_7 => ?_)
      · refine lv_iload_n hx hb d_M_roots_67 rfl (lv_at hl 1 rfl) ?_
        exact RET _ _ _ _ _ _ d_M_roots_68 (by have e1 : i = 30 := (by omega); subst e1; (refine ⟨rfl, ?_, vd_cn_le _ _⟩; (· rw [ha]; rfl))) HW
      · refine lv_aload_n hx hb d_M_roots_10 rfl (lv_at hl 0 rfl) ?_
        refine vg_35_stored CX HW lk_M_13 d_M_roots_11 ?_
        refine lv_iload_n hx hb d_M_roots_14 rfl (lv_at hl 2 rfl) ?_
        refine vd_zald CX HW (j := 15) (i := (i + 1)) rfl (show i + 1 < 31 by omega) d_M_roots_15 (fun b1 => ?_)
        have b1 : K 15 (i + 1) ≤ 1 := b1
        refine lv_istore_n (lv' := [(3, .int (nI (K 15 (i + 1)))), (0, .ref (ad 35)), (1, .int (nI a)), (2, .int (nI (i + 1)))]) hx hb d_M_roots_16 rfl hl (by decide) rfl (fun ls hl => ?_)
        refine lv_iconst (v := (nI 1)) hx hb d_M_roots_17 (by decide) ?_
        refine lv_istore (lv' := [(4, .int (nI 1)), (3, .int (nI (K 15 (i + 1)))), (0, .ref (ad 35)), (1, .int (nI a)), (2, .int (nI (i + 1)))]) hx hb d_M_roots_18 hl (by decide) rfl (fun ls hl => ?_)
        have loop20 : ∀ (n : Nat) (t : Nat) (q : Nat), (q ≤ i) → (t ≤ 1) → (t ≠ 0 ↔ (K 15 (i + 1) ≠ 0 ∧ ∀ b, 1 ≤ b → b < q + 1 → ¬ (K 15 b ≠ 0 ∧ vd_same K (i + 1) b = true))) → (30 < q + n) → ∀ (H : Heap) (locs : List Loc) (ls : Array Slot), vd_WS D ad s K H locs → lv_has ls 5 [(0, .ref (ad 35)), (1, .int (nI a)), (2, .int (nI (i + 1))), (3, .int (nI t)), (4, .int (nI (q + 1)))] → W p l e (vd_R 1 23) s m args below meth cd H locs 0 0 Q (F0 m 20 ls []) := by
          intro n
          induction n with
          | zero => intro t q hq ht1 hfr hm; exfalso; omega
          | succ n ih20 =>
            intro t q hq ht1 hfr hm H locs ls HW hl
            refine lv_iload hx hb d_M_roots_20 (lv_at hl 4 rfl) ?_
            refine lv_iload_n hx hb d_M_roots_22 rfl (lv_at hl 2 rfl) ?_
            refine vd_icmp_ge (tgt := 54) hx hb d_M_roots_23 (by decide) (by omega) (by omega) (fun c_23 => ?_) (fun c_23 => ?_)
            · refine lv_iload_n hx hb d_M_roots_54 rfl (lv_at hl 3 rfl) ?_
              refine vd_if_eq (tgt := 61) hx hb d_M_roots_55 (by decide) (by omega) (fun c_55 => ?_) (fun c_55 => ?_)
              · refine lv_iinc (v := (nI ((i + 1) + 1))) (lv' := [(2, .int (nI ((i + 1) + 1))), (0, .ref (ad 35)), (1, .int (nI a)), (3, .int (nI t)), (4, .int (nI (q + 1)))]) hx hb d_M_roots_61 hl (k := 2) rfl (vd_inc _ 1) (by decide) rfl (fun ls hl => ?_)
                refine lv_goto (tgt := 4) hx hb d_M_roots_64 (by decide) ?_
                exact ih4 a (i + 1) (by omega) (by first | exact vd_cn_t ha (decide_eq_true ((hfr.mp c_55).imp_right fun h b h1 h2 => h b h2 (by omega))) | exact vd_cn_f ha (decide_eq_false (fun h => absurd (hfr.mpr (h.imp_right fun h b h2 h1 => h b (by omega) h2)) (by omega)))) (by omega) H locs ls HW (lv_sub hl [1, 2, 0] rfl)
              · refine lv_iinc (v := (nI (a + 1))) (lv' := [(1, .int (nI (a + 1))), (0, .ref (ad 35)), (2, .int (nI (i + 1))), (3, .int (nI t)), (4, .int (nI (q + 1)))]) hx hb d_M_roots_58 hl (k := 1) rfl (vd_inc _ 1) (by decide) rfl (fun ls hl => ?_)
                refine lv_iinc (v := (nI ((i + 1) + 1))) (lv' := [(2, .int (nI ((i + 1) + 1))), (1, .int (nI (a + 1))), (0, .ref (ad 35)), (3, .int (nI t)), (4, .int (nI (q + 1)))]) hx hb d_M_roots_61 hl (k := 2) rfl (vd_inc _ 1) (by decide) rfl (fun ls hl => ?_)
                refine lv_goto (tgt := 4) hx hb d_M_roots_64 (by decide) ?_
                exact ih4 (a + 1) (i + 1) (by omega) (by first | exact vd_cn_t ha (decide_eq_true ((hfr.mp c_55).imp_right fun h b h1 h2 => h b h2 (by omega))) | exact vd_cn_f ha (decide_eq_false (fun h => absurd (hfr.mpr (h.imp_right fun h b h2 h1 => h b (by omega) h2)) (by omega)))) (by omega) H locs ls HW (lv_sub hl [2, 1, 0] rfl)
            · refine lv_aload_n hx hb d_M_roots_26 rfl (lv_at hl 0 rfl) ?_
              refine vg_35_stored CX HW lk_M_13 d_M_roots_27 ?_
              refine lv_iload hx hb d_M_roots_30 (lv_at hl 4 rfl) ?_
              refine vd_zald CX HW (j := 15) (i := (q + 1)) rfl (show q + 1 < 31 by omega) d_M_roots_32 (fun b2 => ?_)
              have b2 : K 15 (q + 1) ≤ 1 := b2
              refine vd_if_eq (tgt := 48) hx hb d_M_roots_33 (by decide) (by omega) (fun c_33 => ?_) (fun c_33 => ?_)
              · refine lv_iinc (v := (nI ((q + 1) + 1))) (lv' := [(4, .int (nI ((q + 1) + 1))), (0, .ref (ad 35)), (1, .int (nI a)), (2, .int (nI (i + 1))), (3, .int (nI t))]) hx hb d_M_roots_48 hl (k := 4) rfl (vd_inc _ 1) (by decide) rfl (fun ls hl => ?_)
                refine lv_goto (tgt := 20) hx hb d_M_roots_51 (by decide) ?_
                exact ih20 t (q + 1) (by omega) (by omega) (by first | exact vd_frs0 hfr ⟨c_33, c_43⟩ | exact vd_frs1 hfr (fun h => by rw [c_43] at h; exact absurd h.2 (by decide)) | exact vd_frs1 hfr (fun h => h.1 c_33)) (by omega) H locs ls HW (lv_sub hl [1, 2, 3, 4, 0] rfl)
              · refine lv_aload_n hx hb d_M_roots_36 rfl (lv_at hl 0 rfl) ?_
                refine lv_iload_n hx hb d_M_roots_37 rfl (lv_at hl 2 rfl) ?_
                refine lv_iload hx hb d_M_roots_38 (lv_at hl 4 rfl) ?_
                refine vd_callVi (As := [.int (nI (i + 1)), .int (nI (q + 1))]) (rest := []) CX HW (j_same l D ad K (i + 1) (q + 1) (by omega) (by omega)) mo_M_same wi_M_same ws_M_same (vr_35 CX HW) ml_M_50 rfl rfl ⟨Nat.le_of_ble_eq_true rfl, Nat.le_of_ble_eq_true rfl⟩ hl.1 (Nat.le_of_ble_eq_true rfl) d_M_roots_40 ⟨Nat.zero_le _, Nat.zero_le _⟩ (fun r3 K4 H locs q5 HW => ?_)
                obtain ⟨rfl, rfl⟩ := q5
                refine vd_ifb_eq (tgt := 48) hx hb d_M_roots_43 (by decide) (fun c_43 => ?_) (fun c_43 => ?_)
                · refine lv_iinc (v := (nI ((q + 1) + 1))) (lv' := [(4, .int (nI ((q + 1) + 1))), (0, .ref (ad 35)), (1, .int (nI a)), (2, .int (nI (i + 1))), (3, .int (nI t))]) hx hb d_M_roots_48 hl (k := 4) rfl (vd_inc _ 1) (by decide) rfl (fun ls hl => ?_)
                  refine lv_goto (tgt := 20) hx hb d_M_roots_51 (by decide) ?_
                  exact ih20 t (q + 1) (by omega) (by omega) (by first | exact vd_frs0 hfr ⟨c_33, c_43⟩ | exact vd_frs1 hfr (fun h => by rw [c_43] at h; exact absurd h.2 (by decide)) | exact vd_frs1 hfr (fun h => h.1 c_33)) (by omega) H locs ls HW (lv_sub hl [1, 2, 3, 4, 0] rfl)
                · refine lv_iconst (v := (nI 0)) hx hb d_M_roots_46 (by decide) ?_
                  refine lv_istore_n (lv' := [(3, .int (nI 0)), (0, .ref (ad 35)), (1, .int (nI a)), (2, .int (nI (i + 1))), (4, .int (nI (q + 1)))]) hx hb d_M_roots_47 rfl hl (by decide) rfl (fun ls hl => ?_)
                  refine lv_iinc (v := (nI ((q + 1) + 1))) (lv' := [(4, .int (nI ((q + 1) + 1))), (3, .int (nI 0)), (0, .ref (ad 35)), (1, .int (nI a)), (2, .int (nI (i + 1)))]) hx hb d_M_roots_48 hl (k := 4) rfl (vd_inc _ 1) (by decide) rfl (fun ls hl => ?_)
                  refine lv_goto (tgt := 20) hx hb d_M_roots_51 (by decide) ?_
                  exact ih20 0 (q + 1) (by omega) (by omega) (by first | exact vd_frs0 hfr ⟨c_33, c_43⟩ | exact vd_frs1 hfr (fun h => by rw [c_43] at h; exact absurd h.2 (by decide)) | exact vd_frs1 hfr (fun h => h.1 c_33)) (by omega) H locs ls HW (lv_sub hl [2, 3, 4, 1, 0] rfl)
        exact loop20 31 (K 15 (i + 1)) 0 (by omega) (by omega) (by exact ⟨fun h => ⟨h, fun b h1 h2 => absurd h2 (by omega)⟩, fun h => h.1⟩) (by omega) H locs ls HW (lv_sub hl [2, 3, 4, 1, 0] rfl)
  exact loop4 31 0 0 (by omega) (by rfl) (by omega) H locs ls HW (lv_sub hl [2, 1, 0] rfl)
set_option maxHeartbeats 1000000 in
set_option maxRecDepth 100000 in
theorem j_folders (l : Launch) (D : va_G) (ad : Nat → Nat) (K : KT)   : vd_MI l y_M_folders c_M_folders 5 (some .int) 1 23 D ad [.ref (ad 35)] K (fun (ans : Int32) (K' : KT) => K = K' ∧ ans = (nI (vd_c1 K)) ∧ vd_c1 K ≤ 120) := by
  refine vd_entI (by decide) (Nat.le_of_ble_eq_true rfl) (lv := [(0, .ref (ad 35))]) rfl ?_
  intro p e s m args below meth cd ls Q CX hl H locs HW RET
  have hx := CX.1
  have hb := CX.2.1
  refine lv_iconst (v := (nI 0)) hx hb d_M_folders_0 (by decide) ?_
  refine lv_istore_n (lv' := [(1, .int (nI 0)), (0, .ref (ad 35))]) hx hb d_M_folders_1 rfl hl (by decide) rfl (fun ls hl => ?_)
  refine lv_bipush (v := (nI 16)) hx hb d_M_folders_2 (by decide) ?_
  refine lv_istore_n (lv' := [(2, .int (nI 16)), (1, .int (nI 0)), (0, .ref (ad 35))]) hx hb d_M_folders_4 rfl hl (by decide) rfl (fun ls hl => ?_)
  have loop5 : ∀ (n : Nat) (a : Nat) (t : Nat), (t ≤ 120) → (a = vd_cn (fun t => vd_frF K t) t) → (120 < t + n) → ∀ (H : Heap) (locs : List Loc) (ls : Array Slot), vd_WS D ad s K H locs → lv_has ls 5 [(0, .ref (ad 35)), (1, .int (nI a)), (2, .int (nI (16 + 4 * t)))] → W p l e (vd_R 1 23) s m args below meth cd H locs 0 0 Q (F0 m 5 ls []) := by
    intro n
    induction n with
    | zero => intro a t hi ha hm; exfalso; omega
    | succ n ih5 =>
      intro a t hi ha hm H locs ls HW hl
      refine lv_iload_n hx hb d_M_folders_5 rfl (lv_at hl 2 rfl) ?_
      refine lv_sipush (v := (nI 496)) hx hb d_M_folders_6 (by decide) ?_
      refine vd_icmp_ge (tgt := 124) hx hb d_M_folders_9 (by decide) (by omega) (by omega) (fun c_9 => ?_) (fun c_9 => ?_)
      · refine lv_iload_n hx hb d_M_folders_124 rfl (lv_at hl 1 rfl) ?_
        exact RET _ _ _ _ _ _ d_M_folders_125 (by have e1 : t = 120 := (by omega); subst e1; (refine ⟨rfl, ?_, vd_cn_le _ _⟩; (· rw [ha]; rfl))) HW
      · have cut65 : ∀ (r : Nat), (r ≤ 1) → (r ≠ 0 ↔ (K 15 ((16 + 4 * t) / 16) ≠ 0 ∧ vd_orM K (16 + 4 * t) ≠ 0)) → ∀ (H : Heap) (locs : List Loc) (ls : Array Slot), vd_WS D ad s K H locs → lv_has ls 5 [(0, .ref (ad 35)), (1, .int (nI a)), (2, .int (nI (16 + 4 * t)))] → W p l e (vd_R 1 23) s m args below meth cd H locs 0 0 Q (F0 m 65 ls [.int (nI r)]) := by
          intro r hr0 hf0 H locs ls HW hl
          have t1 : t < 120 := by omega
          refine lv_istore_n (lv' := [(3, .int (nI r)), (0, .ref (ad 35)), (1, .int (nI a)), (2, .int (nI (16 + 4 * t)))]) hx hb d_M_folders_65 rfl hl (by decide) rfl (fun ls hl => ?_)
          refine lv_bipush (v := (nI 16)) hx hb d_M_folders_66 (by decide) ?_
          refine lv_istore (lv' := [(4, .int (nI 16)), (3, .int (nI r)), (0, .ref (ad 35)), (1, .int (nI a)), (2, .int (nI (16 + 4 * t)))]) hx hb d_M_folders_68 hl (by decide) rfl (fun ls hl => ?_)
          have loop70 : ∀ (n : Nat) (r : Nat) (u : Nat), (u ≤ t) → (r ≤ 1) → (r ≠ 0 ↔ ((K 15 ((16 + 4 * t) / 16) ≠ 0 ∧ vd_orM K (16 + 4 * t) ≠ 0) ∧ ∀ v, v < u → ¬ (K 15 ((16 + 4 * v) / 16) ≠ 0 ∧ vd_alM K (16 + 4 * t) (16 + 4 * v) = true))) → (120 < u + n) → ∀ (H : Heap) (locs : List Loc) (ls : Array Slot), vd_WS D ad s K H locs → lv_has ls 5 [(0, .ref (ad 35)), (1, .int (nI a)), (2, .int (nI (16 + 4 * t))), (3, .int (nI r)), (4, .int (nI (16 + 4 * u)))] → W p l e (vd_R 1 23) s m args below meth cd H locs 0 0 Q (F0 m 70 ls []) := by
            intro n
            induction n with
            | zero => intro r u hq hr1 hfr hm; exfalso; omega
            | succ n ih70 =>
              intro r u hq hr1 hfr hm H locs ls HW hl
              refine lv_iload hx hb d_M_folders_70 (lv_at hl 4 rfl) ?_
              refine lv_iload_n hx hb d_M_folders_72 rfl (lv_at hl 2 rfl) ?_
              refine vd_icmp_ge (tgt := 111) hx hb d_M_folders_73 (by decide) (by omega) (by omega) (fun c_73 => ?_) (fun c_73 => ?_)
              · refine lv_iload_n hx hb d_M_folders_111 rfl (lv_at hl 3 rfl) ?_
                refine vd_if_eq (tgt := 118) hx hb d_M_folders_112 (by decide) (by omega) (fun c_112 => ?_) (fun c_112 => ?_)
                · refine lv_iinc (v := (nI ((16 + 4 * t) + 4))) (lv' := [(2, .int (nI ((16 + 4 * t) + 4))), (0, .ref (ad 35)), (1, .int (nI a)), (3, .int (nI r)), (4, .int (nI (16 + 4 * u)))]) hx hb d_M_folders_118 hl (k := 2) rfl (vd_inc _ 4) (by decide) rfl (fun ls hl => ?_)
                  refine lv_goto (tgt := 5) hx hb d_M_folders_121 (by decide) ?_
                  exact ih5 a (t + 1) (by omega) (by first | exact vd_cn_t ha (decide_eq_true (and_assoc.mp ((hfr.mp c_112).imp_right fun h u h1 => h u (by omega)))) | exact vd_cn_f ha (decide_eq_false (fun h => absurd (hfr.mpr ((and_assoc.mpr h).imp_right fun h u h1 => h u (by omega))) (by omega)))) (by omega) H locs ls HW (lv_sub hl [1, 2, 0] rfl)
                · refine lv_iinc (v := (nI (a + 1))) (lv' := [(1, .int (nI (a + 1))), (0, .ref (ad 35)), (2, .int (nI (16 + 4 * t))), (3, .int (nI r)), (4, .int (nI (16 + 4 * u)))]) hx hb d_M_folders_115 hl (k := 1) rfl (vd_inc _ 1) (by decide) rfl (fun ls hl => ?_)
                  refine lv_iinc (v := (nI ((16 + 4 * t) + 4))) (lv' := [(2, .int (nI ((16 + 4 * t) + 4))), (1, .int (nI (a + 1))), (0, .ref (ad 35)), (3, .int (nI r)), (4, .int (nI (16 + 4 * u)))]) hx hb d_M_folders_118 hl (k := 2) rfl (vd_inc _ 4) (by decide) rfl (fun ls hl => ?_)
                  refine lv_goto (tgt := 5) hx hb d_M_folders_121 (by decide) ?_
                  exact ih5 (a + 1) (t + 1) (by omega) (by first | exact vd_cn_t ha (decide_eq_true (and_assoc.mp ((hfr.mp c_112).imp_right fun h u h1 => h u (by omega)))) | exact vd_cn_f ha (decide_eq_false (fun h => absurd (hfr.mpr ((and_assoc.mpr h).imp_right fun h u h1 => h u (by omega))) (by omega)))) (by omega) H locs ls HW (lv_sub hl [2, 1, 0] rfl)
              · refine lv_iload_n hx hb d_M_folders_76 rfl (lv_at hl 3 rfl) ?_
                refine vd_if_eq (tgt := 105) hx hb d_M_folders_77 (by decide) (by omega) (fun c_77 => ?_) (fun c_77 => ?_)
                · refine lv_iinc (v := (nI ((16 + 4 * u) + 4))) (lv' := [(4, .int (nI ((16 + 4 * u) + 4))), (0, .ref (ad 35)), (1, .int (nI a)), (2, .int (nI (16 + 4 * t))), (3, .int (nI r))]) hx hb d_M_folders_105 hl (k := 4) rfl (vd_inc _ 4) (by decide) rfl (fun ls hl => ?_)
                  refine lv_goto (tgt := 70) hx hb d_M_folders_108 (by decide) ?_
                  exact ih70 r (u + 1) (by omega) (by omega) (by first | exact vd_frt0 hfr ⟨c_90, c_100⟩ | exact vd_frt1 hfr (fun h => by rw [c_100] at h; exact absurd h.2 (by decide)) | exact vd_frt1 hfr (fun h => h.1 c_90) | exact vd_frt2 hfr c_77) (by omega) H locs ls HW (lv_sub hl [1, 2, 3, 4, 0] rfl)
                · refine lv_aload_n hx hb d_M_folders_80 rfl (lv_at hl 0 rfl) ?_
                  refine vg_35_stored CX HW lk_M_13 d_M_folders_81 ?_
                  refine lv_iload hx hb d_M_folders_84 (lv_at hl 4 rfl) ?_
                  refine lv_bipush (v := (nI 16)) hx hb d_M_folders_86 (by decide) ?_
                  refine vd_idiv hx hb (by omega) (by omega) (by omega) d_M_folders_88 ?_
                  refine vd_zald CX HW (j := 15) (i := ((16 + 4 * u) / 16)) rfl (show (16 + 4 * u) / 16 < 31 by omega) d_M_folders_89 (fun b1 => ?_)
                  have b1 : K 15 ((16 + 4 * u) / 16) ≤ 1 := b1
                  refine vd_if_eq (tgt := 105) hx hb d_M_folders_90 (by decide) (by omega) (fun c_90 => ?_) (fun c_90 => ?_)
                  · refine lv_iinc (v := (nI ((16 + 4 * u) + 4))) (lv' := [(4, .int (nI ((16 + 4 * u) + 4))), (0, .ref (ad 35)), (1, .int (nI a)), (2, .int (nI (16 + 4 * t))), (3, .int (nI r))]) hx hb d_M_folders_105 hl (k := 4) rfl (vd_inc _ 4) (by decide) rfl (fun ls hl => ?_)
                    refine lv_goto (tgt := 70) hx hb d_M_folders_108 (by decide) ?_
                    exact ih70 r (u + 1) (by omega) (by omega) (by first | exact vd_frt0 hfr ⟨c_90, c_100⟩ | exact vd_frt1 hfr (fun h => by rw [c_100] at h; exact absurd h.2 (by decide)) | exact vd_frt1 hfr (fun h => h.1 c_90) | exact vd_frt2 hfr c_77) (by omega) H locs ls HW (lv_sub hl [1, 2, 3, 4, 0] rfl)
                  · refine lv_aload_n hx hb d_M_folders_93 rfl (lv_at hl 0 rfl) ?_
                    refine lv_iload_n hx hb d_M_folders_94 rfl (lv_at hl 2 rfl) ?_
                    refine lv_iload hx hb d_M_folders_95 (lv_at hl 4 rfl) ?_
                    refine vd_callVi (As := [.int (nI (16 + 4 * t)), .int (nI (16 + 4 * u))]) (rest := []) CX HW (j_alike l D ad K (16 + 4 * t) (16 + 4 * u) (by omega) (by omega)) mo_M_alike wi_M_alike ws_M_alike (vr_35 CX HW) ml_M_101 rfl rfl ⟨Nat.le_of_ble_eq_true rfl, Nat.le_of_ble_eq_true rfl⟩ hl.1 (Nat.le_of_ble_eq_true rfl) d_M_folders_97 ⟨Nat.zero_le _, Nat.zero_le _⟩ (fun r2 K3 H locs q4 HW => ?_)
                    obtain ⟨rfl, rfl⟩ := q4
                    refine vd_ifb_eq (tgt := 105) hx hb d_M_folders_100 (by decide) (fun c_100 => ?_) (fun c_100 => ?_)
                    · refine lv_iinc (v := (nI ((16 + 4 * u) + 4))) (lv' := [(4, .int (nI ((16 + 4 * u) + 4))), (0, .ref (ad 35)), (1, .int (nI a)), (2, .int (nI (16 + 4 * t))), (3, .int (nI r))]) hx hb d_M_folders_105 hl (k := 4) rfl (vd_inc _ 4) (by decide) rfl (fun ls hl => ?_)
                      refine lv_goto (tgt := 70) hx hb d_M_folders_108 (by decide) ?_
                      exact ih70 r (u + 1) (by omega) (by omega) (by first | exact vd_frt0 hfr ⟨c_90, c_100⟩ | exact vd_frt1 hfr (fun h => by rw [c_100] at h; exact absurd h.2 (by decide)) | exact vd_frt1 hfr (fun h => h.1 c_90) | exact vd_frt2 hfr c_77) (by omega) H locs ls HW (lv_sub hl [1, 2, 3, 4, 0] rfl)
                    · refine lv_iconst (v := (nI 0)) hx hb d_M_folders_103 (by decide) ?_
                      refine lv_istore_n (lv' := [(3, .int (nI 0)), (0, .ref (ad 35)), (1, .int (nI a)), (2, .int (nI (16 + 4 * t))), (4, .int (nI (16 + 4 * u)))]) hx hb d_M_folders_104 rfl hl (by decide) rfl (fun ls hl => ?_)
                      refine lv_iinc (v := (nI ((16 + 4 * u) + 4))) (lv' := [(4, .int (nI ((16 + 4 * u) + 4))), (3, .int (nI 0)), (0, .ref (ad 35)), (1, .int (nI a)), (2, .int (nI (16 + 4 * t)))]) hx hb d_M_folders_105 hl (k := 4) rfl (vd_inc _ 4) (by decide) rfl (fun ls hl => ?_)
                      refine lv_goto (tgt := 70) hx hb d_M_folders_108 (by decide) ?_
                      exact ih70 0 (u + 1) (by omega) (by omega) (by first | exact vd_frt0 hfr ⟨c_90, c_100⟩ | exact vd_frt1 hfr (fun h => by rw [c_100] at h; exact absurd h.2 (by decide)) | exact vd_frt1 hfr (fun h => h.1 c_90) | exact vd_frt2 hfr c_77) (by omega) H locs ls HW (lv_sub hl [2, 3, 4, 1, 0] rfl)
          exact loop70 121 r 0 (by omega) (by omega) (by exact ⟨fun h => ⟨hf0.mp h, fun b h1 => absurd h1 (by omega)⟩, fun h => hf0.mpr h.1⟩) (by omega) H locs ls HW (lv_sub hl [2, 3, 4, 1, 0] rfl)
        refine lv_aload_n hx hb d_M_folders_12 rfl (lv_at hl 0 rfl) ?_
        refine vg_35_stored CX HW lk_M_13 d_M_folders_13 ?_
        refine lv_iload_n hx hb d_M_folders_16 rfl (lv_at hl 2 rfl) ?_
        refine lv_bipush (v := (nI 16)) hx hb d_M_folders_17 (by decide) ?_
        refine vd_idiv hx hb (by omega) (by omega) (by omega) d_M_folders_19 ?_
        refine vd_zald CX HW (j := 15) (i := ((16 + 4 * t) / 16)) rfl (show (16 + 4 * t) / 16 < 31 by omega) d_M_folders_20 (fun b5 => ?_)
        have b5 : K 15 ((16 + 4 * t) / 16) ≤ 1 := b5
        refine vd_if_eq (tgt := 64) hx hb d_M_folders_21 (by decide) (by omega) (fun c_21 => ?_) (fun c_21 => ?_)
        · refine lv_iconst (v := (nI 0)) hx hb d_M_folders_64 (by decide) ?_
          exact cut65 0 (by omega) (by first | exact ⟨fun _ => ⟨c_21, c_57⟩, fun _ => by decide⟩ | exact ⟨fun h => absurd rfl h, fun h => absurd c_57 h.2⟩ | exact ⟨fun h => absurd rfl h, fun h => absurd c_21 h.1⟩) H locs ls HW (lv_sub hl [0, 1, 2] rfl)
        · refine lv_aload_n hx hb d_M_folders_24 rfl (lv_at hl 0 rfl) ?_
          refine vg_35_content CX HW lk_M_7 d_M_folders_25 ?_
          refine lv_iload_n hx hb d_M_folders_28 rfl (lv_at hl 2 rfl) ?_
          refine vd_iald CX HW (j := 14) (i := (16 + 4 * t)) rfl (show 16 + 4 * t < 544 by omega) d_M_folders_29 (fun b6 => ?_)
          have b6 : K 14 (16 + 4 * t) ≤ 9999 := b6
          refine lv_aload_n hx hb d_M_folders_30 rfl (lv_at hl 0 rfl) ?_
          refine vg_35_content CX HW lk_M_7 d_M_folders_31 ?_
          refine lv_iload_n hx hb d_M_folders_34 rfl (lv_at hl 2 rfl) ?_
          refine lv_iconst (v := (nI 1)) hx hb d_M_folders_35 (by decide) ?_
          refine vd_iadd hx hb d_M_folders_36 ?_
          refine vd_iald CX HW (j := 14) (i := ((16 + 4 * t) + 1)) rfl (show (16 + 4 * t) + 1 < 544 by omega) d_M_folders_37 (fun b7 => ?_)
          have b7 : K 14 ((16 + 4 * t) + 1) ≤ 9999 := b7
          refine vd_ior hx hb d_M_folders_38 ?_
          refine lv_aload_n hx hb d_M_folders_39 rfl (lv_at hl 0 rfl) ?_
          refine vg_35_content CX HW lk_M_7 d_M_folders_40 ?_
          refine lv_iload_n hx hb d_M_folders_43 rfl (lv_at hl 2 rfl) ?_
          refine lv_iconst (v := (nI 2)) hx hb d_M_folders_44 (by decide) ?_
          refine vd_iadd hx hb d_M_folders_45 ?_
          refine vd_iald CX HW (j := 14) (i := ((16 + 4 * t) + 2)) rfl (show (16 + 4 * t) + 2 < 544 by omega) d_M_folders_46 (fun b8 => ?_)
          have b8 : K 14 ((16 + 4 * t) + 2) ≤ 9999 := b8
          refine vd_ior hx hb d_M_folders_47 ?_
          refine lv_aload_n hx hb d_M_folders_48 rfl (lv_at hl 0 rfl) ?_
          refine vg_35_content CX HW lk_M_7 d_M_folders_49 ?_
          refine lv_iload_n hx hb d_M_folders_52 rfl (lv_at hl 2 rfl) ?_
          refine lv_iconst (v := (nI 3)) hx hb d_M_folders_53 (by decide) ?_
          refine vd_iadd hx hb d_M_folders_54 ?_
          refine vd_iald CX HW (j := 14) (i := ((16 + 4 * t) + 3)) rfl (show (16 + 4 * t) + 3 < 544 by omega) d_M_folders_55 (fun b9 => ?_)
          have b9 : K 14 ((16 + 4 * t) + 3) ≤ 9999 := b9
          refine vd_ior hx hb d_M_folders_56 ?_
          have b99 : K 14 (16 + 4 * t) ||| K 14 (16 + 4 * t + 1) ||| K 14 (16 + 4 * t + 2) ||| K 14 (16 + 4 * t + 3) ≤ 16383 := vd_or14 (vd_or14 (vd_or14 (by omega) (by omega)) (by omega)) (by omega)
          refine vd_if_eq (tgt := 64) hx hb d_M_folders_57 (by decide) (by omega) (fun c_57 => ?_) (fun c_57 => ?_)
          · refine lv_iconst (v := (nI 0)) hx hb d_M_folders_64 (by decide) ?_
            exact cut65 0 (by omega) (by first | exact ⟨fun _ => ⟨c_21, c_57⟩, fun _ => by decide⟩ | exact ⟨fun h => absurd rfl h, fun h => absurd c_57 h.2⟩ | exact ⟨fun h => absurd rfl h, fun h => absurd c_21 h.1⟩) H locs ls HW (lv_sub hl [0, 1, 2] rfl)
          · refine lv_iconst (v := (nI 1)) hx hb d_M_folders_60 (by decide) ?_
            refine lv_goto (tgt := 65) hx hb d_M_folders_61 (by decide) ?_
            exact cut65 1 (by omega) (by first | exact ⟨fun _ => ⟨c_21, c_57⟩, fun _ => by decide⟩ | exact ⟨fun h => absurd rfl h, fun h => absurd c_57 h.2⟩ | exact ⟨fun h => absurd rfl h, fun h => absurd c_21 h.1⟩) H locs ls HW (lv_sub hl [0, 1, 2] rfl)
  exact loop5 121 0 0 (by omega) (by rfl) (by omega) H locs ls HW (lv_sub hl [2, 1, 0] rfl)
set_option maxHeartbeats 1000000 in
set_option maxRecDepth 100000 in
theorem j_count (l : Launch) (D : va_G) (ad : Nat → Nat) (K : KT) (x : Int32)  : vd_MI l y_M_count c_M_count 4 (some .int) 2 47 D ad [.ref (ad 35), .int x] K (fun (ans : Int32) (K' : KT) => K = K' ∧ ans = (vd_ct (vd_ctM K) x)) := by
  refine vd_entI (by decide) (Nat.le_of_ble_eq_true rfl) (lv := [(0, .ref (ad 35)), (1, .int x)]) rfl ?_
  intro p e s m args below meth cd ls Q CX hl H locs HW RET
  have hx := CX.1
  have hb := CX.2.1
  refine lv_iconst (v := (nI 0)) hx hb d_M_count_0 (by decide) ?_
  refine lv_istore_n (lv' := [(2, .int (nI 0)), (0, .ref (ad 35)), (1, .int x)]) hx hb d_M_count_1 rfl hl (by decide) rfl (fun ls hl => ?_)
  refine lv_iload_n hx hb d_M_count_2 rfl (lv_at hl 2 rfl) ?_
  rcases vd_sw10 x with h_sw | rfl | rfl | rfl | rfl | rfl | rfl | rfl | rfl | rfl | rfl
  · refine lv_tableOut (tgt := 153) hx hb d_M_count_3 h_sw (by decide) ?_
    refine lv_iconst (v := (-1 : Int32)) hx hb d_M_count_153 (by decide) ?_
    exact RET _ _ _ _ _ _ d_M_count_154 (by exact ⟨rfl, vd_ct_o h_sw⟩) HW
  · refine lv_tableIn (off := 53) (tgt := 56) hx hb d_M_count_3 (by decide) (by decide) rfl (by decide) ?_
    refine lv_iconst (v := (nI 1)) hx hb d_M_count_56 (by decide) ?_
    refine lv_istore_n (lv' := [(3, .int (nI 1)), (2, .int (nI 0)), (0, .ref (ad 35)), (1, .int (nI 0))]) hx hb d_M_count_57 rfl hl (by decide) rfl (fun ls hl => ?_)
    have loop58 : ∀ (n : Nat) (a : Nat) (i : Nat), (i ≤ 9999) → (a = vd_cn (fun i => K 20 (i + 1) != 0) i) → (9999 < i + n) → ∀ (H : Heap) (locs : List Loc) (ls : Array Slot), vd_WS D ad s K H locs → lv_has ls 4 [(0, .ref (ad 35)), (1, .int (nI 0)), (2, .int (nI a)), (3, .int (nI (i + 1)))] → W p l e (vd_R 2 47) s m args below meth cd H locs 0 0 Q (F0 m 58 ls []) := by
      intro n
      induction n with
      | zero => intro a i hi ha hm; exfalso; omega
      | succ n ih58 =>
        intro a i hi ha hm H locs ls HW hl
        refine lv_iload_n hx hb d_M_count_58 rfl (lv_at hl 3 rfl) ?_
        refine lv_sipush (v := (nI 10000)) hx hb d_M_count_59 (by decide) ?_
        refine vd_icmp_ge (tgt := 83) hx hb d_M_count_62 (by decide) (by omega) (by omega) (fun c_62 => ?_) (fun c_62 => ?_)
        · refine lv_iload_n hx hb d_M_count_83 rfl (lv_at hl 2 rfl) ?_
          exact RET _ _ _ _ _ _ d_M_count_84 (by rw [show i = 9999 by omega] at ha; (refine ⟨rfl, ?_⟩; (· rw [ha]; exact vd_ct_i (n := vd_ctM K) (c := 0) (by decide)))) HW
        · refine lv_aload_n hx hb d_M_count_65 rfl (lv_at hl 0 rfl) ?_
          refine vg_35_blob CX HW lk_M_29 d_M_count_66 ?_
          refine lv_iload_n hx hb d_M_count_69 rfl (lv_at hl 3 rfl) ?_
          refine vd_zald CX HW (j := 20) (i := (i + 1)) rfl (show i + 1 < 10000 by omega) d_M_count_70 (fun b1 => ?_)
          have b1 : K 20 (i + 1) ≤ 1 := b1
          refine vd_if_eq (tgt := 77) hx hb d_M_count_71 (by decide) (by omega) (fun c_71 => ?_) (fun c_71 => ?_)
          · refine lv_iinc (v := (nI ((i + 1) + 1))) (lv' := [(3, .int (nI ((i + 1) + 1))), (0, .ref (ad 35)), (1, .int (nI 0)), (2, .int (nI a))]) hx hb d_M_count_77 hl (k := 3) rfl (vd_inc _ 1) (by decide) rfl (fun ls hl => ?_)
            refine lv_goto (tgt := 58) hx hb d_M_count_80 (by decide) ?_
            exact ih58 a (i + 1) (by omega) (by first | exact vd_cn_t ha (by simpa using c_71) | exact vd_cn_f ha (by simpa using c_71)) (by omega) H locs ls HW (lv_sub hl [1, 2, 3, 0] rfl)
          · refine lv_iinc (v := (nI (a + 1))) (lv' := [(2, .int (nI (a + 1))), (0, .ref (ad 35)), (1, .int (nI 0)), (3, .int (nI (i + 1)))]) hx hb d_M_count_74 hl (k := 2) rfl (vd_inc _ 1) (by decide) rfl (fun ls hl => ?_)
            refine lv_iinc (v := (nI ((i + 1) + 1))) (lv' := [(3, .int (nI ((i + 1) + 1))), (2, .int (nI (a + 1))), (0, .ref (ad 35)), (1, .int (nI 0))]) hx hb d_M_count_77 hl (k := 3) rfl (vd_inc _ 1) (by decide) rfl (fun ls hl => ?_)
            refine lv_goto (tgt := 58) hx hb d_M_count_80 (by decide) ?_
            exact ih58 (a + 1) (i + 1) (by omega) (by first | exact vd_cn_t ha (by simpa using c_71) | exact vd_cn_f ha (by simpa using c_71)) (by omega) H locs ls HW (lv_sub hl [2, 3, 1, 0] rfl)
    exact loop58 10000 0 0 (by omega) (by rfl) (by omega) H locs ls HW (lv_sub hl [2, 3, 1, 0] rfl)
  · refine lv_tableIn (off := 82) (tgt := 85) hx hb d_M_count_3 (by decide) (by decide) rfl (by decide) ?_
    refine lv_aload_n hx hb d_M_count_85 rfl (lv_at hl 1 rfl) ?_
    refine vd_callVi (As := []) (rest := []) CX HW (j_folders l D ad K) mo_M_folders wi_M_folders ws_M_folders (vr_35 CX HW) ml_M_104 rfl rfl ⟨Nat.le_of_ble_eq_true rfl, Nat.le_of_ble_eq_true rfl⟩ hl.1 (Nat.le_of_ble_eq_true rfl) d_M_count_86 ⟨Nat.zero_le _, Nat.zero_le _⟩ (fun r2 K3 H locs q4 HW => ?_)
    obtain ⟨rfl, rfl, b5⟩ := q4
    have b5 : vd_c1 K ≤ 120 := b5
    exact RET _ _ _ _ _ _ d_M_count_89 (by exact ⟨rfl, vd_ct_i (n := vd_ctM K) (c := 1) (by decide)⟩) HW
  · refine lv_tableIn (off := 87) (tgt := 90) hx hb d_M_count_3 (by decide) (by decide) rfl (by decide) ?_
    refine lv_aload_n hx hb d_M_count_90 rfl (lv_at hl 1 rfl) ?_
    refine vd_callVi (As := []) (rest := []) CX HW (j_roots l D ad K) mo_M_roots wi_M_roots ws_M_roots (vr_35 CX HW) ml_M_107 rfl rfl ⟨Nat.le_of_ble_eq_true rfl, Nat.le_of_ble_eq_true rfl⟩ hl.1 (Nat.le_of_ble_eq_true rfl) d_M_count_91 ⟨Nat.zero_le _, Nat.zero_le _⟩ (fun r6 K7 H locs q8 HW => ?_)
    obtain ⟨rfl, rfl, b9⟩ := q8
    have b9 : vd_c2 K ≤ 30 := b9
    exact RET _ _ _ _ _ _ d_M_count_94 (by exact ⟨rfl, vd_ct_i (n := vd_ctM K) (c := 2) (by decide)⟩) HW
  · refine lv_tableIn (off := 92) (tgt := 95) hx hb d_M_count_3 (by decide) (by decide) rfl (by decide) ?_
    refine lv_iconst (v := (nI 1)) hx hb d_M_count_95 (by decide) ?_
    refine lv_istore_n (lv' := [(3, .int (nI 1)), (2, .int (nI 0)), (0, .ref (ad 35)), (1, .int (nI 3))]) hx hb d_M_count_96 rfl hl (by decide) rfl (fun ls hl => ?_)
    have loop97 : ∀ (n : Nat) (a : Nat) (i : Nat), (i ≤ 30) → (a = vd_cn (fun i => K 15 (i + 1) != 0) i) → (30 < i + n) → ∀ (H : Heap) (locs : List Loc) (ls : Array Slot), vd_WS D ad s K H locs → lv_has ls 4 [(0, .ref (ad 35)), (1, .int (nI 3)), (2, .int (nI a)), (3, .int (nI (i + 1)))] → W p l e (vd_R 2 47) s m args below meth cd H locs 0 0 Q (F0 m 97 ls []) := by
      intro n
      induction n with
      | zero => intro a i hi ha hm; exfalso; omega
      | succ n ih97 =>
        intro a i hi ha hm H locs ls HW hl
        refine lv_iload_n hx hb d_M_count_97 rfl (lv_at hl 3 rfl) ?_
        refine lv_bipush (v := (nI 31)) hx hb d_M_count_98 (by decide) ?_
        refine vd_icmp_ge (tgt := 121) hx hb d_M_count_100 (by decide) (by omega) (by omega) (fun c_100 => ?_) (fun c_100 => ?_)
        · refine lv_iload_n hx hb d_M_count_121 rfl (lv_at hl 2 rfl) ?_
          exact RET _ _ _ _ _ _ d_M_count_122 (by rw [show i = 30 by omega] at ha; (refine ⟨rfl, ?_⟩; (· rw [ha]; exact vd_ct_i (n := vd_ctM K) (c := 3) (by decide)))) HW
        · refine lv_aload_n hx hb d_M_count_103 rfl (lv_at hl 0 rfl) ?_
          refine vg_35_stored CX HW lk_M_13 d_M_count_104 ?_
          refine lv_iload_n hx hb d_M_count_107 rfl (lv_at hl 3 rfl) ?_
          refine vd_zald CX HW (j := 15) (i := (i + 1)) rfl (show i + 1 < 31 by omega) d_M_count_108 (fun b10 => ?_)
          have b10 : K 15 (i + 1) ≤ 1 := b10
          refine vd_if_eq (tgt := 115) hx hb d_M_count_109 (by decide) (by omega) (fun c_109 => ?_) (fun c_109 => ?_)
          · refine lv_iinc (v := (nI ((i + 1) + 1))) (lv' := [(3, .int (nI ((i + 1) + 1))), (0, .ref (ad 35)), (1, .int (nI 3)), (2, .int (nI a))]) hx hb d_M_count_115 hl (k := 3) rfl (vd_inc _ 1) (by decide) rfl (fun ls hl => ?_)
            refine lv_goto (tgt := 97) hx hb d_M_count_118 (by decide) ?_
            exact ih97 a (i + 1) (by omega) (by first | exact vd_cn_t ha (by simpa using c_109) | exact vd_cn_f ha (by simpa using c_109)) (by omega) H locs ls HW (lv_sub hl [1, 2, 3, 0] rfl)
          · refine lv_iinc (v := (nI (a + 1))) (lv' := [(2, .int (nI (a + 1))), (0, .ref (ad 35)), (1, .int (nI 3)), (3, .int (nI (i + 1)))]) hx hb d_M_count_112 hl (k := 2) rfl (vd_inc _ 1) (by decide) rfl (fun ls hl => ?_)
            refine lv_iinc (v := (nI ((i + 1) + 1))) (lv' := [(3, .int (nI ((i + 1) + 1))), (2, .int (nI (a + 1))), (0, .ref (ad 35)), (1, .int (nI 3))]) hx hb d_M_count_115 hl (k := 3) rfl (vd_inc _ 1) (by decide) rfl (fun ls hl => ?_)
            refine lv_goto (tgt := 97) hx hb d_M_count_118 (by decide) ?_
            exact ih97 (a + 1) (i + 1) (by omega) (by first | exact vd_cn_t ha (by simpa using c_109) | exact vd_cn_f ha (by simpa using c_109)) (by omega) H locs ls HW (lv_sub hl [2, 3, 1, 0] rfl)
    exact loop97 31 0 0 (by omega) (by rfl) (by omega) H locs ls HW (lv_sub hl [2, 3, 1, 0] rfl)
  · refine lv_tableIn (off := 120) (tgt := 123) hx hb d_M_count_3 (by decide) (by decide) rfl (by decide) ?_
    refine lv_aload_n hx hb d_M_count_123 rfl (lv_at hl 1 rfl) ?_
    refine vg_35_made CX HW lk_M_58 d_M_count_124 (fun b11 => ?_)
    have b11 : K 47 0 ≤ 30 := b11
    exact RET _ _ _ _ _ _ d_M_count_127 (by exact ⟨rfl, vd_ct_i (n := vd_ctM K) (c := 4) (by decide)⟩) HW
  · refine lv_tableIn (off := 125) (tgt := 128) hx hb d_M_count_3 (by decide) (by decide) rfl (by decide) ?_
    refine lv_aload_n hx hb d_M_count_128 rfl (lv_at hl 1 rfl) ?_
    refine vg_35_head CX HW lk_M_38 d_M_count_129 (fun b12 => ?_)
    have b12 : K 48 0 ≤ 5 := b12
    exact RET _ _ _ _ _ _ d_M_count_132 (by exact ⟨rfl, vd_ct_i (n := vd_ctM K) (c := 5) (by decide)⟩) HW
  · refine lv_tableIn (off := 130) (tgt := 133) hx hb d_M_count_3 (by decide) (by decide) rfl (by decide) ?_
    refine lv_aload_n hx hb d_M_count_133 rfl (lv_at hl 1 rfl) ?_
    refine vd_callVi (As := []) (rest := []) CX HW (j_here l D ad K) mo_M_here wi_M_here ws_M_here (vr_35 CX HW) ml_M_54 rfl rfl ⟨Nat.le_of_ble_eq_true rfl, Nat.le_of_ble_eq_true rfl⟩ hl.1 (Nat.le_of_ble_eq_true rfl) d_M_count_134 ⟨Nat.zero_le _, Nat.zero_le _⟩ (fun r13 K14 H locs q15 HW => ?_)
    obtain ⟨rfl, rfl, b16⟩ := q15
    have b16 : vd_hereM K ≤ 30 := b16
    exact RET _ _ _ _ _ _ d_M_count_137 (by exact ⟨rfl, vd_ct_i (n := vd_ctM K) (c := 6) (by decide)⟩) HW
  · refine lv_tableIn (off := 135) (tgt := 138) hx hb d_M_count_3 (by decide) (by decide) rfl (by decide) ?_
    refine lv_aload_n hx hb d_M_count_138 rfl (lv_at hl 1 rfl) ?_
    refine vg_35_merging CX HW lk_M_64 d_M_count_139 (fun b17 => ?_)
    have b17 : K 49 0 ≤ 30 := b17
    exact RET _ _ _ _ _ _ d_M_count_142 (by exact ⟨rfl, vd_ct_i (n := vd_ctM K) (c := 7) (by decide)⟩) HW
  · refine lv_tableIn (off := 140) (tgt := 143) hx hb d_M_count_3 (by decide) (by decide) rfl (by decide) ?_
    refine lv_aload_n hx hb d_M_count_143 rfl (lv_at hl 1 rfl) ?_
    refine vd_callVi (As := []) (rest := []) CX HW (j_clashes l D ad K) mo_M_clashes wi_M_clashes ws_M_clashes (vr_35 CX HW) ml_M_61 rfl rfl ⟨Nat.le_of_ble_eq_true rfl, Nat.le_of_ble_eq_true rfl⟩ hl.1 (Nat.le_of_ble_eq_true rfl) d_M_count_144 ⟨Nat.zero_le _, Nat.zero_le _⟩ (fun r18 K19 H locs q20 HW => ?_)
    obtain ⟨rfl, rfl, b21⟩ := q20
    have b21 : vd_clM K ≤ 16 := b21
    exact RET _ _ _ _ _ _ d_M_count_147 (by exact ⟨rfl, vd_ct_i (n := vd_ctM K) (c := 8) (by decide)⟩) HW
  · refine lv_tableIn (off := 145) (tgt := 148) hx hb d_M_count_3 (by decide) (by decide) rfl (by decide) ?_
    refine lv_aload_n hx hb d_M_count_148 rfl (lv_at hl 1 rfl) ?_
    refine vd_callVi (As := []) (rest := []) CX HW (j_changed l D ad K) mo_M_changed wi_M_changed ws_M_changed (vr_35 CX HW) ml_M_110 rfl rfl ⟨Nat.le_of_ble_eq_true rfl, Nat.le_of_ble_eq_true rfl⟩ hl.1 (Nat.le_of_ble_eq_true rfl) d_M_count_149 ⟨Nat.zero_le _, Nat.zero_le _⟩ (fun r22 K23 H locs q24 HW => ?_)
    obtain ⟨rfl, rfl, b25⟩ := q24
    have b25 : vd_chg K ≤ 16 := b25
    exact RET _ _ _ _ _ _ d_M_count_152 (by exact ⟨rfl, vd_ct_i (n := vd_ctM K) (c := 9) (by decide)⟩) HW
set_option maxHeartbeats 1000000 in
set_option maxRecDepth 100000 in
theorem j_objects (l : Launch) (D : va_G) (ad : Nat → Nat) (K : KT)   : vd_MI l y_M_objects c_M_objects 1 (some .int) 3 70 D ad [.ref (ad 35)] K (fun (ans : Int32) (K' : KT) => K = K' ∧ ans = (nI (vd_obM K)) ∧ vd_obM K ≤ 10179) := by
  refine vd_entI (by decide) (Nat.le_of_ble_eq_true rfl) (lv := [(0, .ref (ad 35))]) rfl ?_
  intro p e s m args below meth cd ls Q CX hl H locs HW RET
  have hx := CX.1
  have hb := CX.2.1
  refine lv_aload_n hx hb d_M_objects_0 rfl (lv_at hl 0 rfl) ?_
  refine lv_iconst (v := (nI 0)) hx hb d_M_objects_1 (by decide) ?_
  refine vd_callVi (As := [.int (nI 0)]) (rest := []) CX HW (j_count l D ad K (nI 0)) mo_M_count wi_M_count ws_M_count (vr_35 CX HW) ml_M_94 rfl rfl ⟨Nat.le_of_ble_eq_true rfl, Nat.le_of_ble_eq_true rfl⟩ hl.1 (Nat.le_of_ble_eq_true rfl) d_M_objects_2 ⟨Nat.zero_le _, Nat.zero_le _⟩ (fun r1 K2 H locs q3 HW => ?_)
  obtain ⟨rfl, rfl⟩ := q3
  rw [show vd_ct (vd_ctM K) (nI 0) = nI (vd_c0 K) from (vd_ct_i (n := vd_ctM K) (c := 0) (by decide)).symm]
  refine lv_aload_n hx hb d_M_objects_5 rfl (lv_at hl 0 rfl) ?_
  refine lv_iconst (v := (nI 1)) hx hb d_M_objects_6 (by decide) ?_
  refine vd_callVi (As := [.int (nI 1)]) (rest := [.int (nI (vd_c0 K))]) CX HW (j_count l D ad K (nI 1)) mo_M_count wi_M_count ws_M_count (vr_35 CX HW) ml_M_94 rfl rfl ⟨Nat.le_of_ble_eq_true rfl, Nat.le_of_ble_eq_true rfl⟩ hl.1 (Nat.le_of_ble_eq_true rfl) d_M_objects_7 ⟨Nat.zero_le _, Nat.zero_le _⟩ (fun r4 K5 H locs q6 HW => ?_)
  obtain ⟨rfl, rfl⟩ := q6
  rw [show vd_ct (vd_ctM K) (nI 1) = nI (vd_c1 K) from (vd_ct_i (n := vd_ctM K) (c := 1) (by decide)).symm]
  refine vd_iadd hx hb d_M_objects_10 ?_
  refine lv_aload_n hx hb d_M_objects_11 rfl (lv_at hl 0 rfl) ?_
  refine lv_iconst (v := (nI 2)) hx hb d_M_objects_12 (by decide) ?_
  refine vd_callVi (As := [.int (nI 2)]) (rest := [.int (nI ((vd_c0 K) + (vd_c1 K)))]) CX HW (j_count l D ad K (nI 2)) mo_M_count wi_M_count ws_M_count (vr_35 CX HW) ml_M_94 rfl rfl ⟨Nat.le_of_ble_eq_true rfl, Nat.le_of_ble_eq_true rfl⟩ hl.1 (Nat.le_of_ble_eq_true rfl) d_M_objects_13 ⟨Nat.zero_le _, Nat.zero_le _⟩ (fun r7 K8 H locs q9 HW => ?_)
  obtain ⟨rfl, rfl⟩ := q9
  rw [show vd_ct (vd_ctM K) (nI 2) = nI (vd_c2 K) from (vd_ct_i (n := vd_ctM K) (c := 2) (by decide)).symm]
  refine vd_iadd hx hb d_M_objects_16 ?_
  refine lv_aload_n hx hb d_M_objects_17 rfl (lv_at hl 0 rfl) ?_
  refine lv_iconst (v := (nI 3)) hx hb d_M_objects_18 (by decide) ?_
  refine vd_callVi (As := [.int (nI 3)]) (rest := [.int (nI (((vd_c0 K) + (vd_c1 K)) + (vd_c2 K)))]) CX HW (j_count l D ad K (nI 3)) mo_M_count wi_M_count ws_M_count (vr_35 CX HW) ml_M_94 rfl rfl ⟨Nat.le_of_ble_eq_true rfl, Nat.le_of_ble_eq_true rfl⟩ hl.1 (Nat.le_of_ble_eq_true rfl) d_M_objects_19 ⟨Nat.zero_le _, Nat.zero_le _⟩ (fun r10 K11 H locs q12 HW => ?_)
  obtain ⟨rfl, rfl⟩ := q12
  rw [show vd_ct (vd_ctM K) (nI 3) = nI (vd_c3 K) from (vd_ct_i (n := vd_ctM K) (c := 3) (by decide)).symm]
  refine vd_iadd hx hb d_M_objects_22 ?_
  exact RET _ _ _ _ _ _ d_M_objects_23 (by (refine ⟨rfl, rfl, ?_⟩; (· have h0 : vd_c0 K ≤ 9999 := vd_cn_le _ _; have h1 : vd_c1 K ≤ 120 := vd_cn_le _ _; have h2 : vd_c2 K ≤ 30 := vd_cn_le _ _; have h3 : vd_c3 K ≤ 30 := vd_cn_le _ _; unfold vd_obM; omega))) HW
set_option maxHeartbeats 1000000 in
set_option maxRecDepth 100000 in
theorem j_sweep (l : Launch) (D : va_G) (ad : Nat → Nat) (K : KT)   : vd_MI l y_M_sweep c_M_sweep 4 (some .int) 4 90 D ad [.ref (ad 35)] K (fun (ans : Int32) (K' : KT) => K' = vd_swKM K ∧ ans = (nI (vd_obM K) - nI (vd_obM (vd_swKM K)))) := by
  refine vd_entI (by decide) (Nat.le_of_ble_eq_true rfl) (lv := [(0, .ref (ad 35))]) rfl ?_
  intro p e s m args below meth cd ls Q CX hl H locs HW RET
  have hx := CX.1
  have hb := CX.2.1
  refine lv_aload_n hx hb d_M_sweep_0 rfl (lv_at hl 0 rfl) ?_
  refine vd_callVi (As := []) (rest := []) CX HW (j_objects l D ad K) mo_M_objects wi_M_objects ws_M_objects (vr_35 CX HW) ml_M_98 rfl rfl ⟨Nat.le_of_ble_eq_true rfl, Nat.le_of_ble_eq_true rfl⟩ hl.1 (Nat.le_of_ble_eq_true rfl) d_M_sweep_1 ⟨Nat.zero_le _, Nat.zero_le _⟩ (fun r1 K2 H locs q3 HW => ?_)
  obtain ⟨rfl, rfl, b4⟩ := q3
  have b4 : vd_obM K ≤ 10179 := b4
  refine lv_istore_n (lv' := [(1, .int (nI (vd_obM K))), (0, .ref (ad 35))]) hx hb d_M_sweep_4 rfl hl (by decide) rfl (fun ls hl => ?_)
  refine lv_iconst (v := (nI 0)) hx hb d_M_sweep_5 (by decide) ?_
  refine lv_istore_n (lv' := [(2, .int (nI 0)), (1, .int (nI (vd_obM K))), (0, .ref (ad 35))]) hx hb d_M_sweep_6 rfl hl (by decide) rfl (fun ls hl => ?_)
  have loop7 : ∀ (n : Nat) (i1 : Nat) (Ka : KT), (i1 ≤ 31) → (Ka = vd_fl K 22 0 i1 (fun _ => 0)) → (31 < i1 + n) → ∀ (H : Heap) (locs : List Loc) (ls : Array Slot), vd_WS D ad s Ka H locs → lv_has ls 4 [(0, .ref (ad 35)), (1, .int (nI (vd_obM K))), (2, .int (nI i1))] → W p l e (vd_R 4 90) s m args below meth cd H locs 0 0 Q (F0 m 7 ls []) := by
    intro n
    induction n with
    | zero => intro i1 Ka hi1 hka hm; exfalso; omega
    | succ n ih7 =>
      intro i1 Ka hi1 hka hm H locs ls HW hl
      refine lv_iload_n hx hb d_M_sweep_7 rfl (lv_at hl 2 rfl) ?_
      refine lv_bipush (v := (nI 31)) hx hb d_M_sweep_8 (by decide) ?_
      refine vd_icmp_ge (tgt := 26) hx hb d_M_sweep_10 (by decide) (by omega) (by omega) (fun c_10 => ?_) (fun c_10 => ?_)
      · refine lv_iconst (v := (nI 0)) hx hb d_M_sweep_26 (by decide) ?_
        refine lv_istore_n (lv' := [(2, .int (nI 0)), (0, .ref (ad 35)), (1, .int (nI (vd_obM K)))]) hx hb d_M_sweep_27 rfl hl (by decide) rfl (fun ls hl => ?_)
        have loop28 : ∀ (n : Nat) (b : Nat) (Kb : KT), (b ≤ 7) → (Kb = vd_sw1 Ka b) → (7 < b + n) → ∀ (H : Heap) (locs : List Loc) (ls : Array Slot), vd_WS D ad s Kb H locs → lv_has ls 4 [(0, .ref (ad 35)), (1, .int (nI (vd_obM K))), (2, .int (nI b))] → W p l e (vd_R 4 90) s m args below meth cd H locs 0 0 Q (F0 m 28 ls []) := by
          intro n
          induction n with
          | zero => intro b Kb hb7 hkb hm; exfalso; omega
          | succ n ih28 =>
            intro b Kb hb7 hkb hm H locs ls HW hl
            refine lv_iload_n hx hb d_M_sweep_28 rfl (lv_at hl 2 rfl) ?_
            refine lv_bipush (v := (nI 7)) hx hb d_M_sweep_29 (by decide) ?_
            refine vd_icmp_ge (tgt := 93) hx hb d_M_sweep_31 (by decide) (by omega) (by omega) (fun c_31 => ?_) (fun c_31 => ?_)
            · refine lv_iconst (v := (nI 0)) hx hb d_M_sweep_93 (by decide) ?_
              refine lv_istore_n (lv' := [(2, .int (nI 0)), (0, .ref (ad 35)), (1, .int (nI (vd_obM K)))]) hx hb d_M_sweep_94 rfl hl (by decide) rfl (fun ls hl => ?_)
              have loop95 : ∀ (n : Nat) (i2 : Nat) (Kd : KT), (i2 ≤ 10000) → (Kd = vd_fl Kb 20 0 i2 (fun _ => 0)) → (10000 < i2 + n) → ∀ (H : Heap) (locs : List Loc) (ls : Array Slot), vd_WS D ad s Kd H locs → lv_has ls 4 [(0, .ref (ad 35)), (1, .int (nI (vd_obM K))), (2, .int (nI i2))] → W p l e (vd_R 4 90) s m args below meth cd H locs 0 0 Q (F0 m 95 ls []) := by
                intro n
                induction n with
                | zero => intro i2 Kd hi2 hkd hm; exfalso; omega
                | succ n ih95 =>
                  intro i2 Kd hi2 hkd hm H locs ls HW hl
                  refine lv_iload_n hx hb d_M_sweep_95 rfl (lv_at hl 2 rfl) ?_
                  refine lv_sipush (v := (nI 10000)) hx hb d_M_sweep_96 (by decide) ?_
                  refine vd_icmp_ge (tgt := 115) hx hb d_M_sweep_99 (by decide) (by omega) (by omega) (fun c_99 => ?_) (fun c_99 => ?_)
                  · refine lv_iconst (v := (nI 1)) hx hb d_M_sweep_115 (by decide) ?_
                    refine lv_istore_n (lv' := [(2, .int (nI 1)), (0, .ref (ad 35)), (1, .int (nI (vd_obM K)))]) hx hb d_M_sweep_116 rfl hl (by decide) rfl (fun ls hl => ?_)
                    have loop117 : ∀ (n : Nat) (j2 : Nat) (Ke : KT), (j2 ≤ 30) → (Ke = vd_sw3 Kd j2) → (30 < j2 + n) → ∀ (H : Heap) (locs : List Loc) (ls : Array Slot), vd_WS D ad s Ke H locs → lv_has ls 4 [(0, .ref (ad 35)), (1, .int (nI (vd_obM K))), (2, .int (nI (j2 + 1)))] → W p l e (vd_R 4 90) s m args below meth cd H locs 0 0 Q (F0 m 117 ls []) := by
                      intro n
                      induction n with
                      | zero => intro j2 Ke hj2 hke hm; exfalso; omega
                      | succ n ih117 =>
                        intro j2 Ke hj2 hke hm H locs ls HW hl
                        refine lv_iload_n hx hb d_M_sweep_117 rfl (lv_at hl 2 rfl) ?_
                        refine lv_bipush (v := (nI 31)) hx hb d_M_sweep_118 (by decide) ?_
                        refine vd_icmp_ge (tgt := 181) hx hb d_M_sweep_120 (by decide) (by omega) (by omega) (fun c_120 => ?_) (fun c_120 => ?_)
                        · refine lv_iconst (v := (nI 0)) hx hb d_M_sweep_181 (by decide) ?_
                          refine lv_istore_n (lv' := [(2, .int (nI 0)), (0, .ref (ad 35)), (1, .int (nI (vd_obM K)))]) hx hb d_M_sweep_182 rfl hl (by decide) rfl (fun ls hl => ?_)
                          have loop183 : ∀ (n : Nat) (f2 : Nat) (Kg : KT), (f2 ≤ 16) → (Kg = vd_sw4 Ke f2) → (16 < f2 + n) → ∀ (H : Heap) (locs : List Loc) (ls : Array Slot), vd_WS D ad s Kg H locs → lv_has ls 4 [(0, .ref (ad 35)), (1, .int (nI (vd_obM K))), (2, .int (nI f2))] → W p l e (vd_R 4 90) s m args below meth cd H locs 0 0 Q (F0 m 183 ls []) := by
                            intro n
                            induction n with
                            | zero => intro f2 Kg hf2 hkg hm; exfalso; omega
                            | succ n ih183 =>
                              intro f2 Kg hf2 hkg hm H locs ls HW hl
                              refine lv_iload_n hx hb d_M_sweep_183 rfl (lv_at hl 2 rfl) ?_
                              refine lv_bipush (v := (nI 16)) hx hb d_M_sweep_184 (by decide) ?_
                              refine vd_icmp_ge (tgt := 211) hx hb d_M_sweep_186 (by decide) (by omega) (by omega) (fun c_186 => ?_) (fun c_186 => ?_)
                              · rw [show i1 = 31 by omega] at hka
                                rw [show b = 7 by omega] at hkb
                                rw [show i2 = 10000 by omega] at hkd
                                rw [show j2 = 30 by omega] at hke
                                rw [show f2 = 16 by omega] at hkg
                                refine lv_aload_n hx hb d_M_sweep_211 rfl (lv_at hl 0 rfl) ?_
                                refine vg_35_blob CX HW lk_M_29 d_M_sweep_212 ?_
                                refine lv_iconst (v := (nI 0)) hx hb d_M_sweep_215 (by decide) ?_
                                refine lv_iconst (v := (nI 0)) hx hb d_M_sweep_216 (by decide) ?_
                                refine vd_zast CX HW (j := 20) (i := 0) (x := 0) rfl (show 0 < 10000 by omega) (show 0 ≤ 1 by omega) (show 0 ≤ 1 by omega) d_M_sweep_217 (fun K5 H locs eK5 HW => ?_)
                                refine lv_iload_n hx hb d_M_sweep_218 rfl (lv_at hl 1 rfl) ?_
                                refine lv_aload_n hx hb d_M_sweep_219 rfl (lv_at hl 0 rfl) ?_
                                refine vd_callVi (As := []) (rest := [.int (nI (vd_obM K))]) CX HW (j_objects l D ad K5) mo_M_objects wi_M_objects ws_M_objects (vr_35 CX HW) ml_M_98 rfl rfl ⟨Nat.le_of_ble_eq_true rfl, Nat.le_of_ble_eq_true rfl⟩ hl.1 (Nat.le_of_ble_eq_true rfl) d_M_sweep_220 ⟨Nat.zero_le _, Nat.zero_le _⟩ (fun r6 K7 H locs q8 HW => ?_)
                                obtain ⟨rfl, rfl, b9⟩ := q8
                                have b9 : vd_obM K5 ≤ 10179 := b9
                                refine lv_isub hx hb d_M_sweep_223 ?_
                                exact RET _ _ _ _ _ _ d_M_sweep_224 (by have z : K5 = vd_swKM K := (by rw [eK5, hkg, hke, hkd, hkb, hka]; rfl); rw [z]; exact ⟨rfl, rfl⟩) HW
                              · refine lv_aload_n hx hb d_M_sweep_189 rfl (lv_at hl 0 rfl) ?_
                                refine vg_35_blob CX HW lk_M_29 d_M_sweep_190 ?_
                                refine lv_aload_n hx hb d_M_sweep_193 rfl (lv_at hl 0 rfl) ?_
                                refine vg_35_content CX HW lk_M_7 d_M_sweep_194 ?_
                                refine lv_sipush (v := (nI 512)) hx hb d_M_sweep_197 (by decide) ?_
                                refine lv_iload_n hx hb d_M_sweep_200 rfl (lv_at hl 2 rfl) ?_
                                refine vd_iadd hx hb d_M_sweep_201 ?_
                                refine vd_iald CX HW (j := 14) (i := (512 + f2)) rfl (show 512 + f2 < 544 by omega) d_M_sweep_202 (fun b10 => ?_)
                                have b10 : Kg 14 (512 + f2) ≤ 9999 := b10
                                refine lv_iconst (v := (nI 1)) hx hb d_M_sweep_203 (by decide) ?_
                                refine vd_zast CX HW (j := 20) (i := (Kg 14 (512 + f2))) (x := 1) rfl (show Kg 14 (512 + f2) < 10000 by omega) (show 1 ≤ 1 by omega) (show 1 ≤ 1 by omega) d_M_sweep_204 (fun K11 H locs eK11 HW => ?_)
                                refine lv_iinc (v := (nI (f2 + 1))) (lv' := [(2, .int (nI (f2 + 1))), (0, .ref (ad 35)), (1, .int (nI (vd_obM K)))]) hx hb d_M_sweep_205 hl (k := 2) rfl (vd_inc _ 1) (by decide) rfl (fun ls hl => ?_)
                                refine lv_goto (tgt := 183) hx hb d_M_sweep_208 (by decide) ?_
                                exact ih183 (f2 + 1) K11 (by omega) (by rw [eK11, vd_sw4_s, ← hkg, show Kg 14 = Ke 14 by rw [hkg, vd_sw4_o _ (by decide)]]) (by omega) H locs ls HW (lv_sub hl [1, 2, 0] rfl)
                          exact loop183 17 0 Ke (by omega) (by rfl) (by omega) H locs ls HW (lv_sub hl [1, 2, 0] rfl)
                        · refine lv_aload_n hx hb d_M_sweep_123 rfl (lv_at hl 0 rfl) ?_
                          refine vg_35_stored CX HW lk_M_13 d_M_sweep_124 ?_
                          refine lv_iload_n hx hb d_M_sweep_127 rfl (lv_at hl 2 rfl) ?_
                          refine lv_aload_n hx hb d_M_sweep_128 rfl (lv_at hl 0 rfl) ?_
                          refine vg_35_other CX HW lk_M_35 d_M_sweep_129 ?_
                          refine lv_iload_n hx hb d_M_sweep_132 rfl (lv_at hl 2 rfl) ?_
                          refine vd_zald CX HW (j := 22) (i := (j2 + 1)) rfl (show j2 + 1 < 31 by omega) d_M_sweep_133 (fun b12 => ?_)
                          have b12 : Ke 22 (j2 + 1) ≤ 1 := b12
                          refine vd_zast CX HW (j := 15) (i := (j2 + 1)) (x := (Ke 22 (j2 + 1))) rfl (show j2 + 1 < 31 by omega) (show Ke 22 (j2 + 1) ≤ 1 by omega) (show Ke 22 (j2 + 1) ≤ 1 by omega) d_M_sweep_134 (fun K13 H locs eK13 HW => ?_)
                          refine lv_iconst (v := (nI 0)) hx hb d_M_sweep_135 (by decide) ?_
                          refine lv_istore_n (lv' := [(3, .int (nI 0)), (0, .ref (ad 35)), (1, .int (nI (vd_obM K))), (2, .int (nI (j2 + 1)))]) hx hb d_M_sweep_136 rfl hl (by decide) rfl (fun ls hl => ?_)
                          have loop137 : ∀ (n : Nat) (f1 : Nat) (Kf : KT), (f1 ≤ 16) → (Kf = vd_bl3 K13 (j2 + 1) f1) → (Kf 15 = K13 15) → (Kf 14 = K13 14) → (16 < f1 + n) → ∀ (H : Heap) (locs : List Loc) (ls : Array Slot), vd_WS D ad s Kf H locs → lv_has ls 4 [(0, .ref (ad 35)), (1, .int (nI (vd_obM K))), (2, .int (nI (j2 + 1))), (3, .int (nI f1))] → W p l e (vd_R 4 90) s m args below meth cd H locs 0 0 Q (F0 m 137 ls []) := by
                            intro n
                            induction n with
                            | zero => intro f1 Kf hf1 hkf hf15 hf14 hm; exfalso; omega
                            | succ n ih137 =>
                              intro f1 Kf hf1 hkf hf15 hf14 hm H locs ls HW hl
                              refine lv_iload_n hx hb d_M_sweep_137 rfl (lv_at hl 3 rfl) ?_
                              refine lv_bipush (v := (nI 16)) hx hb d_M_sweep_138 (by decide) ?_
                              refine vd_icmp_ge (tgt := 175) hx hb d_M_sweep_140 (by decide) (by omega) (by omega) (fun c_140 => ?_) (fun c_140 => ?_)
                              · refine lv_iinc (v := (nI ((j2 + 1) + 1))) (lv' := [(2, .int (nI ((j2 + 1) + 1))), (0, .ref (ad 35)), (1, .int (nI (vd_obM K))), (3, .int (nI f1))]) hx hb d_M_sweep_175 hl (k := 2) rfl (vd_inc _ 1) (by decide) rfl (fun ls hl => ?_)
                                refine lv_goto (tgt := 117) hx hb d_M_sweep_178 (by decide) ?_
                                exact ih117 (j2 + 1) Kf (by omega) (by rw [show f1 = 16 by omega] at hkf; rw [vd_sw3_s, hkf, eK13, ← hke, show Ke 22 = Kd 22 by rw [hke, vd_sw3_o _ (by decide) (by decide)]]) (by omega) H locs ls HW (lv_sub hl [1, 2, 0] rfl)
                              · refine lv_aload_n hx hb d_M_sweep_143 rfl (lv_at hl 0 rfl) ?_
                                refine vg_35_stored CX HW lk_M_13 d_M_sweep_144 ?_
                                refine lv_iload_n hx hb d_M_sweep_147 rfl (lv_at hl 2 rfl) ?_
                                refine vd_zald CX HW (j := 15) (i := (j2 + 1)) rfl (show j2 + 1 < 31 by omega) d_M_sweep_148 (fun b14 => ?_)
                                have b14 : Kf 15 (j2 + 1) ≤ 1 := b14
                                refine vd_if_eq (tgt := 169) hx hb d_M_sweep_149 (by decide) (by omega) (fun c_149 => ?_) (fun c_149 => ?_)
                                · refine lv_iinc (v := (nI (f1 + 1))) (lv' := [(3, .int (nI (f1 + 1))), (0, .ref (ad 35)), (1, .int (nI (vd_obM K))), (2, .int (nI (j2 + 1)))]) hx hb d_M_sweep_169 hl (k := 3) rfl (vd_inc _ 1) (by decide) rfl (fun ls hl => ?_)
                                  refine lv_goto (tgt := 137) hx hb d_M_sweep_172 (by decide) ?_
                                  exact ih137 (f1 + 1) Kf (by omega) (by rw [vd_bl3_s, if_neg (by rw [← hf15]; omega)]; exact hkf) (by exact hf15) (by exact hf14) (by omega) H locs ls HW (lv_sub hl [1, 2, 3, 0] rfl)
                                · refine lv_aload_n hx hb d_M_sweep_152 rfl (lv_at hl 0 rfl) ?_
                                  refine vg_35_blob CX HW lk_M_29 d_M_sweep_153 ?_
                                  refine lv_aload_n hx hb d_M_sweep_156 rfl (lv_at hl 0 rfl) ?_
                                  refine vg_35_content CX HW lk_M_7 d_M_sweep_157 ?_
                                  refine lv_bipush (v := (nI 16)) hx hb d_M_sweep_160 (by decide) ?_
                                  refine lv_iload_n hx hb d_M_sweep_162 rfl (lv_at hl 2 rfl) ?_
                                  refine vd_imul hx hb d_M_sweep_163 ?_
                                  refine lv_iload_n hx hb d_M_sweep_164 rfl (lv_at hl 3 rfl) ?_
                                  refine vd_iadd hx hb d_M_sweep_165 ?_
                                  refine vd_iald CX HW (j := 14) (i := ((16 * (j2 + 1)) + f1)) rfl (show (16 * (j2 + 1)) + f1 < 544 by omega) d_M_sweep_166 (fun b15 => ?_)
                                  have b15 : Kf 14 ((16 * (j2 + 1)) + f1) ≤ 9999 := b15
                                  refine lv_iconst (v := (nI 1)) hx hb d_M_sweep_167 (by decide) ?_
                                  refine vd_zast CX HW (j := 20) (i := (Kf 14 ((16 * (j2 + 1)) + f1))) (x := 1) rfl (show Kf 14 ((16 * (j2 + 1)) + f1) < 10000 by omega) (show 1 ≤ 1 by omega) (show 1 ≤ 1 by omega) d_M_sweep_168 (fun K16 H locs eK16 HW => ?_)
                                  refine lv_iinc (v := (nI (f1 + 1))) (lv' := [(3, .int (nI (f1 + 1))), (0, .ref (ad 35)), (1, .int (nI (vd_obM K))), (2, .int (nI (j2 + 1)))]) hx hb d_M_sweep_169 hl (k := 3) rfl (vd_inc _ 1) (by decide) rfl (fun ls hl => ?_)
                                  refine lv_goto (tgt := 137) hx hb d_M_sweep_172 (by decide) ?_
                                  exact ih137 (f1 + 1) K16 (by omega) (by rw [eK16, vd_bl3_s, if_pos (by rw [← hf15]; exact c_149), ← hkf, ← hf14]) (by rw [eK16, vd_st_o (by decide)]; exact hf15) (by rw [eK16, vd_st_o (by decide)]; exact hf14) (by omega) H locs ls HW (lv_sub hl [1, 2, 3, 0] rfl)
                          exact loop137 17 0 K13 (by omega) (by rfl) (by rfl) (by rfl) (by omega) H locs ls HW (lv_sub hl [1, 2, 3, 0] rfl)
                    exact loop117 31 0 Kd (by omega) (by rfl) (by omega) H locs ls HW (lv_sub hl [1, 2, 0] rfl)
                  · refine lv_aload_n hx hb d_M_sweep_102 rfl (lv_at hl 0 rfl) ?_
                    refine vg_35_blob CX HW lk_M_29 d_M_sweep_103 ?_
                    refine lv_iload_n hx hb d_M_sweep_106 rfl (lv_at hl 2 rfl) ?_
                    refine lv_iconst (v := (nI 0)) hx hb d_M_sweep_107 (by decide) ?_
                    refine vd_zast CX HW (j := 20) (i := i2) (x := 0) rfl (show i2 < 10000 by omega) (show 0 ≤ 1 by omega) (show 0 ≤ 1 by omega) d_M_sweep_108 (fun K17 H locs eK17 HW => ?_)
                    refine lv_iinc (v := (nI (i2 + 1))) (lv' := [(2, .int (nI (i2 + 1))), (0, .ref (ad 35)), (1, .int (nI (vd_obM K)))]) hx hb d_M_sweep_109 hl (k := 2) rfl (vd_inc _ 1) (by decide) rfl (fun ls hl => ?_)
                    refine lv_goto (tgt := 95) hx hb d_M_sweep_112 (by decide) ?_
                    exact ih95 (i2 + 1) K17 (by omega) (by exact vd_fl_step hkd eK17 (by omega) rfl) (by omega) H locs ls HW (lv_sub hl [1, 2, 0] rfl)
              exact loop95 10001 0 Kb (by omega) (by rw [vd_fl_0]) (by omega) H locs ls HW (lv_sub hl [1, 2, 0] rfl)
            · have cut54 : ∀ (w : Nat), (w ≤ 30) → (w = vd_swb Ka b) → ∀ (H : Heap) (locs : List Loc) (ls : Array Slot), vd_WS D ad s Kb H locs → lv_has ls 4 [(0, .ref (ad 35)), (1, .int (nI (vd_obM K))), (2, .int (nI b))] → W p l e (vd_R 4 90) s m args below meth cd H locs 0 0 Q (F0 m 54 ls [.int (nI w), .ref (ad 35)]) := by
                intro w hw30 hcw H locs ls HW hl
                refine vd_callVv (As := [.int (nI w)]) (rest := []) CX HW (j_mark l D ad Kb w (by omega)) mo_M_mark wi_M_mark ws_M_mark (vr_35 CX HW) ml_M_79 rfl rfl ⟨Nat.le_of_ble_eq_true rfl, Nat.le_of_ble_eq_true rfl⟩ hl.1 (Nat.le_of_ble_eq_true rfl) d_M_sweep_54 ⟨Nat.zero_le _, Nat.zero_le _⟩ (fun K19 H locs q20 HW => ?_)
                have eK19 := q20
                refine lv_iconst (v := (nI 1)) hx hb d_M_sweep_57 (by decide) ?_
                refine lv_istore_n (lv' := [(3, .int (nI 1)), (0, .ref (ad 35)), (1, .int (nI (vd_obM K))), (2, .int (nI b))]) hx hb d_M_sweep_58 rfl hl (by decide) rfl (fun ls hl => ?_)
                have loop59 : ∀ (n : Nat) (k : Nat) (Kc : KT), (k ≤ 30) → (Kc = vd_or2 K19 k) → (Kc 21 = K19 21) → (30 < k + n) → ∀ (H : Heap) (locs : List Loc) (ls : Array Slot), vd_WS D ad s Kc H locs → lv_has ls 4 [(0, .ref (ad 35)), (1, .int (nI (vd_obM K))), (2, .int (nI b)), (3, .int (nI (k + 1)))] → W p l e (vd_R 4 90) s m args below meth cd H locs 0 0 Q (F0 m 59 ls []) := by
                  intro n
                  induction n with
                  | zero => intro k Kc hk30 hkc hc21 hm; exfalso; omega
                  | succ n ih59 =>
                    intro k Kc hk30 hkc hc21 hm H locs ls HW hl
                    refine lv_iload_n hx hb d_M_sweep_59 rfl (lv_at hl 3 rfl) ?_
                    refine lv_bipush (v := (nI 31)) hx hb d_M_sweep_60 (by decide) ?_
                    refine vd_icmp_ge (tgt := 87) hx hb d_M_sweep_62 (by decide) (by omega) (by omega) (fun c_62 => ?_) (fun c_62 => ?_)
                    · refine lv_iinc (v := (nI (b + 1))) (lv' := [(2, .int (nI (b + 1))), (0, .ref (ad 35)), (1, .int (nI (vd_obM K))), (3, .int (nI (k + 1)))]) hx hb d_M_sweep_87 hl (k := 2) rfl (vd_inc _ 1) (by decide) rfl (fun ls hl => ?_)
                      refine lv_goto (tgt := 28) hx hb d_M_sweep_90 (by decide) ?_
                      exact ih28 (b + 1) Kc (by omega) (by rw [show k = 30 by omega] at hkc; rw [vd_sw1_s, ← hkb, ← hcw, hkc, eK19]) (by omega) H locs ls HW (lv_sub hl [1, 2, 0] rfl)
                    · refine lv_aload_n hx hb d_M_sweep_65 rfl (lv_at hl 0 rfl) ?_
                      refine vg_35_marked CX HW lk_M_32 d_M_sweep_66 ?_
                      refine lv_iload_n hx hb d_M_sweep_69 rfl (lv_at hl 3 rfl) ?_
                      refine vd_zald CX HW (j := 21) (i := (k + 1)) rfl (show k + 1 < 31 by omega) d_M_sweep_70 (fun b21 => ?_)
                      have b21 : Kc 21 (k + 1) ≤ 1 := b21
                      refine vd_if_eq (tgt := 81) hx hb d_M_sweep_71 (by decide) (by omega) (fun c_71 => ?_) (fun c_71 => ?_)
                      · refine lv_iinc (v := (nI ((k + 1) + 1))) (lv' := [(3, .int (nI ((k + 1) + 1))), (0, .ref (ad 35)), (1, .int (nI (vd_obM K))), (2, .int (nI b))]) hx hb d_M_sweep_81 hl (k := 3) rfl (vd_inc _ 1) (by decide) rfl (fun ls hl => ?_)
                        refine lv_goto (tgt := 59) hx hb d_M_sweep_84 (by decide) ?_
                        exact ih59 (k + 1) Kc (by omega) (by rw [vd_or2_s, if_neg (by rw [← hc21]; omega)]; exact hkc) (by exact hc21) (by omega) H locs ls HW (lv_sub hl [1, 2, 3, 0] rfl)
                      · refine lv_aload_n hx hb d_M_sweep_74 rfl (lv_at hl 0 rfl) ?_
                        refine vg_35_other CX HW lk_M_35 d_M_sweep_75 ?_
                        refine lv_iload_n hx hb d_M_sweep_78 rfl (lv_at hl 3 rfl) ?_
                        refine lv_iconst (v := (nI 1)) hx hb d_M_sweep_79 (by decide) ?_
                        refine vd_zast CX HW (j := 22) (i := (k + 1)) (x := 1) rfl (show k + 1 < 31 by omega) (show 1 ≤ 1 by omega) (show 1 ≤ 1 by omega) d_M_sweep_80 (fun K22 H locs eK22 HW => ?_)
                        refine lv_iinc (v := (nI ((k + 1) + 1))) (lv' := [(3, .int (nI ((k + 1) + 1))), (0, .ref (ad 35)), (1, .int (nI (vd_obM K))), (2, .int (nI b))]) hx hb d_M_sweep_81 hl (k := 3) rfl (vd_inc _ 1) (by decide) rfl (fun ls hl => ?_)
                        refine lv_goto (tgt := 59) hx hb d_M_sweep_84 (by decide) ?_
                        exact ih59 (k + 1) K22 (by omega) (by rw [eK22, vd_or2_s, if_pos (by rw [← hc21]; exact c_71), ← hkc]) (by rw [eK22, vd_st_o (by decide)]; exact hc21) (by omega) H locs ls HW (lv_sub hl [1, 2, 3, 0] rfl)
                exact loop59 31 0 K19 (by omega) (by rfl) (by rfl) (by omega) H locs ls HW (lv_sub hl [1, 2, 3, 0] rfl)
              refine lv_aload_n hx hb d_M_sweep_34 rfl (lv_at hl 0 rfl) ?_
              refine lv_iload_n hx hb d_M_sweep_35 rfl (lv_at hl 2 rfl) ?_
              refine lv_bipush (v := (nI 6)) hx hb d_M_sweep_36 (by decide) ?_
              refine vd_icmp_ge (tgt := 50) hx hb d_M_sweep_38 (by decide) (by omega) (by omega) (fun c_38 => ?_) (fun c_38 => ?_)
              · refine lv_aload_n hx hb d_M_sweep_50 rfl (lv_at hl 0 rfl) ?_
                refine vg_35_merging CX HW lk_M_64 d_M_sweep_51 (fun b23 => ?_)
                have b23 : Kb 49 0 ≤ 30 := b23
                exact cut54 (Kb 49 0) (by omega) (by unfold vd_swb; rw [show Ka 18 = Kb 18 by rw [hkb, vd_sw1_o _ (by decide) (by decide)], show Ka 49 = Kb 49 by rw [hkb, vd_sw1_o _ (by decide) (by decide)]]; first | rw [if_pos c_38] | rw [if_neg (by omega)]) H locs ls HW (lv_sub hl [0, 1, 2] rfl)
              · refine lv_aload_n hx hb d_M_sweep_41 rfl (lv_at hl 0 rfl) ?_
                refine vg_35_branch CX HW lk_M_23 d_M_sweep_42 ?_
                refine lv_iload_n hx hb d_M_sweep_45 rfl (lv_at hl 2 rfl) ?_
                refine vd_iald CX HW (j := 18) (i := b) rfl (show b < 6 by omega) d_M_sweep_46 (fun b24 => ?_)
                have b24 : Kb 18 b ≤ 30 := b24
                refine lv_goto (tgt := 54) hx hb d_M_sweep_47 (by decide) ?_
                exact cut54 (Kb 18 b) (by omega) (by unfold vd_swb; rw [show Ka 18 = Kb 18 by rw [hkb, vd_sw1_o _ (by decide) (by decide)], show Ka 49 = Kb 49 by rw [hkb, vd_sw1_o _ (by decide) (by decide)]]; first | rw [if_pos c_38] | rw [if_neg (by omega)]) H locs ls HW (lv_sub hl [0, 1, 2] rfl)
        exact loop28 8 0 Ka (by omega) (by rfl) (by omega) H locs ls HW (lv_sub hl [1, 2, 0] rfl)
      · refine lv_aload_n hx hb d_M_sweep_13 rfl (lv_at hl 0 rfl) ?_
        refine vg_35_other CX HW lk_M_35 d_M_sweep_14 ?_
        refine lv_iload_n hx hb d_M_sweep_17 rfl (lv_at hl 2 rfl) ?_
        refine lv_iconst (v := (nI 0)) hx hb d_M_sweep_18 (by decide) ?_
        refine vd_zast CX HW (j := 22) (i := i1) (x := 0) rfl (show i1 < 31 by omega) (show 0 ≤ 1 by omega) (show 0 ≤ 1 by omega) d_M_sweep_19 (fun K25 H locs eK25 HW => ?_)
        refine lv_iinc (v := (nI (i1 + 1))) (lv' := [(2, .int (nI (i1 + 1))), (0, .ref (ad 35)), (1, .int (nI (vd_obM K)))]) hx hb d_M_sweep_20 hl (k := 2) rfl (vd_inc _ 1) (by decide) rfl (fun ls hl => ?_)
        refine lv_goto (tgt := 7) hx hb d_M_sweep_23 (by decide) ?_
        exact ih7 (i1 + 1) K25 (by omega) (by exact vd_fl_step hka eK25 (by omega) rfl) (by omega) H locs ls HW (lv_sub hl [1, 2, 0] rfl)
  exact loop7 32 0 K (by omega) (by rw [vd_fl_0]) (by omega) H locs ls HW (lv_sub hl [2, 1, 0] rfl)
