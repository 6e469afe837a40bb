set_option maxHeartbeats 4000000 in
set_option maxRecDepth 100000 in
theorem law_write {p : Program} {l : Launch} {e : Env} {s : State} {m : MethodId} {below : List Frame} {meth : Method} {c : Code} {D : va_G} {ad : Nat → Nat} {b L i : Nat} {xs : Nat → Int32} {Q : State → Prop} {K : KT} {H : Heap} {locs : List Loc} {ls : Array Slot} (hL : L ≤ 1536) (hi : i + 3 ≤ L) (CX : vd_Cx p s m c code 4 #[Value.ref b] R_law D) (HW : vd_WS D ad s K H locs) (hR : vd_Rel K) (hI : vd_Iv K) (hX : va_X b L xs s s.heap) (hbl : b < s.heap.size) (hbA : ¬ vd_Ad ad b) (hl : lv_has ls 4 [(0, .ref b), (1, .ref (ad 30)), (2, .ref (ad 35)), (3, .int (nI i))])
    (kk : ∀ (K' : KT) (H' : Heap) (locs' : List Loc), vd_Rel K' → vd_Iv K' → vd_WS D ad s K' H' locs' → W p l e room_1 s m #[Value.ref b] below meth c H' locs' 600000 7302250 Q (F0 m 591 ls [])) : W p l e room_1 s m #[Value.ref b] below meth c H locs 600000 7302250 Q (F0 m 124 ls []) := by
  have hx := CX.1
  have hb := CX.2.1
  have HB := HW.2.2.2
  refine lv_aload_n hx hb d_law_124 rfl (lv_at hl 1 rfl) ?_
  refine lv_aload_n hx hb d_law_125 rfl (lv_at hl 0 rfl) ?_
  refine lv_iload_n hx hb d_law_126 rfl (lv_at hl 3 rfl) ?_
  refine lv_iconst (v := nI 1) hx hb d_law_127 (by decide) ?_
  refine vd_iadd hx hb d_law_128 ?_
  refine va_sld hx hb hX hbl hbA HW.2.2.1 (vp_in_nI (by omega) (by omega)) d_law_129 ?_
  refine lv_aload_n hx hb d_law_130 rfl (lv_at hl 0 rfl) ?_
  refine lv_iload_n hx hb d_law_131 rfl (lv_at hl 3 rfl) ?_
  refine lv_iconst (v := nI 2) hx hb d_law_132 (by decide) ?_
  refine vd_iadd hx hb d_law_133 ?_
  refine va_sld hx hb hX hbl hbA HW.2.2.1 (vp_in_nI (by omega) (by omega)) d_law_134 ?_
  refine vd_callVi (As := [.int (xs (nI (i + 1)).toNatClampNeg), .int (xs (nI (i + 2)).toNatClampNeg)]) (rest := []) CX HW (k_write l D ad K (xs (nI (i + 1)).toNatClampNeg) (xs (nI (i + 2)).toNatClampNeg)) mo_D_write wi_D_write ws_D_write (vr_30 CX HW) ml_L_13 rfl rfl ⟨Nat.le_of_ble_eq_true rfl, Nat.le_of_ble_eq_true rfl⟩ hl.1 (Nat.le_of_ble_eq_true rfl) d_law_135 ⟨Nat.le_refl _, Nat.le_refl _⟩ (fun r1 K1 H locs p1 HW => ?_)
  refine lv_aload_n hx hb d_law_138 rfl (lv_at hl 2 rfl) ?_
  refine lv_aload_n hx hb d_law_139 rfl (lv_at hl 0 rfl) ?_
  refine lv_iload_n hx hb d_law_140 rfl (lv_at hl 3 rfl) ?_
  refine lv_iconst (v := nI 1) hx hb d_law_141 (by decide) ?_
  refine vd_iadd hx hb d_law_142 ?_
  refine va_sld hx hb hX hbl hbA HW.2.2.1 (vp_in_nI (by omega) (by omega)) d_law_143 ?_
  refine lv_aload_n hx hb d_law_144 rfl (lv_at hl 0 rfl) ?_
  refine lv_iload_n hx hb d_law_145 rfl (lv_at hl 3 rfl) ?_
  refine lv_iconst (v := nI 2) hx hb d_law_146 (by decide) ?_
  refine vd_iadd hx hb d_law_147 ?_
  refine va_sld hx hb hX hbl hbA HW.2.2.1 (vp_in_nI (by omega) (by omega)) d_law_148 ?_
  refine vd_callVi (As := [.int (xs (nI (i + 1)).toNatClampNeg), .int (xs (nI (i + 2)).toNatClampNeg)]) (rest := [.int r1]) CX HW (j_write l D ad K1 (xs (nI (i + 1)).toNatClampNeg) (xs (nI (i + 2)).toNatClampNeg)) mo_M_write wi_M_write ws_M_write (vr_35 CX HW) ml_L_17 rfl rfl ⟨Nat.le_of_ble_eq_true rfl, Nat.le_of_ble_eq_true rfl⟩ hl.1 (Nat.le_of_ble_eq_true rfl) d_law_149 ⟨Nat.le_refl _, Nat.le_refl _⟩ (fun r2 K2 H locs p2 HW => ?_)
  obtain ⟨e1, f1⟩ := p1
  obtain ⟨e2, f2⟩ := p2
  have E1 : r1 = r2 := by rw [f1, f2]
  have E2 : vd_Rel K2 := by rw [e2]; exact op_write hR (xs (nI (i + 1)).toNatClampNeg) (xs (nI (i + 2)).toNatClampNeg) K1 e1
  have E3 : vd_Iv K2 := iv_M (K1 := K1) (by rw [e1]; exact iv_wr hI (xs (nI (i + 1)).toNatClampNeg) (xs (nI (i + 2)).toNatClampNeg)) (fun j hj => by rw [e2]; exact mf_wr (by decide) hj)
  refine lv_icmp_eq (tgt := 591) hx hb d_law_152 (by decide) (fun _ => ?_) (fun cq => absurd E1 cq)
  exact kk K2 _ _ E2 E3 HW
set_option maxHeartbeats 4000000 in
set_option maxRecDepth 100000 in
theorem law_stage {p : Program} {l : Launch} {e : Env} {s : State} {m : MethodId} {below : List Frame} {meth : Method} {c : Code} {D : va_G} {ad : Nat → Nat} {b L i : Nat} {xs : Nat → Int32} {Q : State → Prop} {K : KT} {H : Heap} {locs : List Loc} {ls : Array Slot} (hL : L ≤ 1536) (hi : i + 3 ≤ L) (CX : vd_Cx p s m c code 4 #[Value.ref b] R_law D) (HW : vd_WS D ad s K H locs) (hR : vd_Rel K) (hI : vd_Iv K) (hX : va_X b L xs s s.heap) (hbl : b < s.heap.size) (hbA : ¬ vd_Ad ad b) (hl : lv_has ls 4 [(0, .ref b), (1, .ref (ad 30)), (2, .ref (ad 35)), (3, .int (nI i))])
    (kk : ∀ (K' : KT) (H' : Heap) (locs' : List Loc), vd_Rel K' → vd_Iv K' → vd_WS D ad s K' H' locs' → W p l e room_1 s m #[Value.ref b] below meth c H' locs' 600000 7302250 Q (F0 m 591 ls [])) : W p l e room_1 s m #[Value.ref b] below meth c H locs 600000 7302250 Q (F0 m 157 ls []) := by
  have hx := CX.1
  have hb := CX.2.1
  have HB := HW.2.2.2
  refine lv_aload_n hx hb d_law_157 rfl (lv_at hl 1 rfl) ?_
  refine lv_aload_n hx hb d_law_158 rfl (lv_at hl 0 rfl) ?_
  refine lv_iload_n hx hb d_law_159 rfl (lv_at hl 3 rfl) ?_
  refine lv_iconst (v := nI 1) hx hb d_law_160 (by decide) ?_
  refine vd_iadd hx hb d_law_161 ?_
  refine va_sld hx hb hX hbl hbA HW.2.2.1 (vp_in_nI (by omega) (by omega)) d_law_162 ?_
  refine vd_callVi (As := [.int (xs (nI (i + 1)).toNatClampNeg)]) (rest := []) CX HW (k_stage l D ad K (xs (nI (i + 1)).toNatClampNeg)) mo_D_stage wi_D_stage ws_D_stage (vr_30 CX HW) ml_L_18 rfl rfl ⟨Nat.le_of_ble_eq_true rfl, Nat.le_of_ble_eq_true rfl⟩ hl.1 (Nat.le_of_ble_eq_true rfl) d_law_163 ⟨Nat.le_refl _, Nat.le_refl _⟩ (fun r1 K1 H locs p1 HW => ?_)
  refine lv_aload_n hx hb d_law_166 rfl (lv_at hl 2 rfl) ?_
  refine lv_aload_n hx hb d_law_167 rfl (lv_at hl 0 rfl) ?_
  refine lv_iload_n hx hb d_law_168 rfl (lv_at hl 3 rfl) ?_
  refine lv_iconst (v := nI 1) hx hb d_law_169 (by decide) ?_
  refine vd_iadd hx hb d_law_170 ?_
  refine va_sld hx hb hX hbl hbA HW.2.2.1 (vp_in_nI (by omega) (by omega)) d_law_171 ?_
  refine vd_callVi (As := [.int (xs (nI (i + 1)).toNatClampNeg)]) (rest := [.int r1]) CX HW (j_stage l D ad K1 (xs (nI (i + 1)).toNatClampNeg)) mo_M_stage wi_M_stage ws_M_stage (vr_35 CX HW) ml_L_22 rfl rfl ⟨Nat.le_of_ble_eq_true rfl, Nat.le_of_ble_eq_true rfl⟩ hl.1 (Nat.le_of_ble_eq_true rfl) d_law_172 ⟨Nat.le_refl _, Nat.le_refl _⟩ (fun r2 K2 H locs p2 HW => ?_)
  obtain ⟨e1, f1⟩ := p1
  obtain ⟨e2, f2⟩ := p2
  have E1 : r1 = r2 := by rw [f1, f2]
  have E2 : vd_Rel K2 := by rw [e2]; exact op_stage hR HB (xs (nI (i + 1)).toNatClampNeg) K1 e1
  have E3 : vd_Iv K2 := iv_M (K1 := K1) (by rw [e1]; exact iv_sg hI (xs (nI (i + 1)).toNatClampNeg)) (fun j hj => by rw [e2]; exact mf_sg hj)
  refine lv_icmp_eq (tgt := 591) hx hb d_law_175 (by decide) (fun _ => ?_) (fun cq => absurd E1 cq)
  exact kk K2 _ _ E2 E3 HW
set_option maxHeartbeats 4000000 in
set_option maxRecDepth 100000 in
theorem law_commit {p : Program} {l : Launch} {e : Env} {s : State} {m : MethodId} {below : List Frame} {meth : Method} {c : Code} {D : va_G} {ad : Nat → Nat} {b L i : Nat} {xs : Nat → Int32} {Q : State → Prop} {K : KT} {H : Heap} {locs : List Loc} {ls : Array Slot} (hL : L ≤ 1536) (hi : i + 3 ≤ L) (CX : vd_Cx p s m c code 4 #[Value.ref b] R_law D) (HW : vd_WS D ad s K H locs) (hR : vd_Rel K) (hI : vd_Iv K) (hX : va_X b L xs s s.heap) (hbl : b < s.heap.size) (hbA : ¬ vd_Ad ad b) (hl : lv_has ls 4 [(0, .ref b), (1, .ref (ad 30)), (2, .ref (ad 35)), (3, .int (nI i))])
    (kk : ∀ (K' : KT) (H' : Heap) (locs' : List Loc), vd_Rel K' → vd_Iv K' → vd_WS D ad s K' H' locs' → W p l e room_1 s m #[Value.ref b] below meth c H' locs' 600000 7302250 Q (F0 m 591 ls [])) : W p l e room_1 s m #[Value.ref b] below meth c H locs 600000 7302250 Q (F0 m 180 ls []) := by
  have hx := CX.1
  have hb := CX.2.1
  have HB := HW.2.2.2
  refine lv_aload_n hx hb d_law_180 rfl (lv_at hl 1 rfl) ?_
  refine vd_callVi (As := []) (rest := []) CX HW (k_commit l D ad K hR.2.2.2.2.2.2.2.2.2.1.1 hR.2.2.2.2.2.2.2.2.2.1.2.1) mo_D_commit wi_D_commit ws_D_commit (vr_30 CX HW) ml_L_23 rfl rfl ⟨Nat.le_of_ble_eq_true rfl, Nat.le_of_ble_eq_true rfl⟩ hl.1 (Nat.le_of_ble_eq_true rfl) d_law_181 ⟨Nat.le_refl _, Nat.le_refl _⟩ (fun r1 K1 H locs p1 HW => ?_)
  refine lv_aload_n hx hb d_law_184 rfl (lv_at hl 2 rfl) ?_
  refine vd_callVi (As := []) (rest := [.int r1]) CX HW (j_commit l D ad K1) mo_M_commit wi_M_commit ws_M_commit (vr_35 CX HW) ml_L_27 rfl rfl ⟨Nat.le_of_ble_eq_true rfl, Nat.le_of_ble_eq_true rfl⟩ hl.1 (Nat.le_of_ble_eq_true rfl) d_law_185 ⟨Nat.le_refl _, Nat.le_refl _⟩ (fun r2 K2 H locs p2 HW => ?_)
  obtain ⟨e1, f1⟩ := p1
  obtain ⟨e2, f2⟩ := p2
  have E1 : r1 = r2 := by rw [f1, f2, e1]; exact (op_commit hR HB hI).1
  have E2 : vd_Rel K2 := by rw [e2, e1]; exact (op_commit hR HB hI).2
  have E3 : vd_Iv K2 := iv_M (K1 := K1) (by rw [e1]; exact iv_cm hI) (fun j hj => by rw [e2]; exact mf_cm hj)
  refine lv_icmp_eq (tgt := 591) hx hb d_law_188 (by decide) (fun _ => ?_) (fun cq => absurd E1 cq)
  exact kk K2 _ _ E2 E3 HW
set_option maxHeartbeats 4000000 in
set_option maxRecDepth 100000 in
theorem law_branch {p : Program} {l : Launch} {e : Env} {s : State} {m : MethodId} {below : List Frame} {meth : Method} {c : Code} {D : va_G} {ad : Nat → Nat} {b L i : Nat} {xs : Nat → Int32} {Q : State → Prop} {K : KT} {H : Heap} {locs : List Loc} {ls : Array Slot} (hL : L ≤ 1536) (hi : i + 3 ≤ L) (CX : vd_Cx p s m c code 4 #[Value.ref b] R_law D) (HW : vd_WS D ad s K H locs) (hR : vd_Rel K) (hI : vd_Iv K) (hX : va_X b L xs s s.heap) (hbl : b < s.heap.size) (hbA : ¬ vd_Ad ad b) (hl : lv_has ls 4 [(0, .ref b), (1, .ref (ad 30)), (2, .ref (ad 35)), (3, .int (nI i))])
    (kk : ∀ (K' : KT) (H' : Heap) (locs' : List Loc), vd_Rel K' → vd_Iv K' → vd_WS D ad s K' H' locs' → W p l e room_1 s m #[Value.ref b] below meth c H' locs' 600000 7302250 Q (F0 m 591 ls [])) : W p l e room_1 s m #[Value.ref b] below meth c H locs 600000 7302250 Q (F0 m 193 ls []) := by
  have hx := CX.1
  have hb := CX.2.1
  have HB := HW.2.2.2
  refine lv_aload_n hx hb d_law_193 rfl (lv_at hl 1 rfl) ?_
  refine lv_aload_n hx hb d_law_194 rfl (lv_at hl 0 rfl) ?_
  refine lv_iload_n hx hb d_law_195 rfl (lv_at hl 3 rfl) ?_
  refine lv_iconst (v := nI 1) hx hb d_law_196 (by decide) ?_
  refine vd_iadd hx hb d_law_197 ?_
  refine va_sld hx hb hX hbl hbA HW.2.2.1 (vp_in_nI (by omega) (by omega)) d_law_198 ?_
  refine vd_callVi (As := [.int (xs (nI (i + 1)).toNatClampNeg)]) (rest := []) CX HW (k_branch l D ad K (xs (nI (i + 1)).toNatClampNeg)) mo_D_branch wi_D_branch ws_D_branch (vr_30 CX HW) ml_L_28 rfl rfl ⟨Nat.le_of_ble_eq_true rfl, Nat.le_of_ble_eq_true rfl⟩ hl.1 (Nat.le_of_ble_eq_true rfl) d_law_199 ⟨Nat.le_refl _, Nat.le_refl _⟩ (fun r1 K1 H locs p1 HW => ?_)
  refine lv_aload_n hx hb d_law_202 rfl (lv_at hl 2 rfl) ?_
  refine lv_aload_n hx hb d_law_203 rfl (lv_at hl 0 rfl) ?_
  refine lv_iload_n hx hb d_law_204 rfl (lv_at hl 3 rfl) ?_
  refine lv_iconst (v := nI 1) hx hb d_law_205 (by decide) ?_
  refine vd_iadd hx hb d_law_206 ?_
  refine va_sld hx hb hX hbl hbA HW.2.2.1 (vp_in_nI (by omega) (by omega)) d_law_207 ?_
  refine vd_callVi (As := [.int (xs (nI (i + 1)).toNatClampNeg)]) (rest := [.int r1]) CX HW (j_branch l D ad K1 (xs (nI (i + 1)).toNatClampNeg)) mo_M_branch wi_M_branch ws_M_branch (vr_35 CX HW) ml_L_31 rfl rfl ⟨Nat.le_of_ble_eq_true rfl, Nat.le_of_ble_eq_true rfl⟩ hl.1 (Nat.le_of_ble_eq_true rfl) d_law_208 ⟨Nat.le_refl _, Nat.le_refl _⟩ (fun r2 K2 H locs p2 HW => ?_)
  obtain ⟨e1, f1⟩ := p1
  obtain ⟨e2, f2⟩ := p2
  have E1 : r1 = r2 := by rw [f1, f2]; exact (op_branch hR (xs (nI (i + 1)).toNatClampNeg) K1 e1).1
  have E2 : vd_Rel K2 := by rw [e2]; exact (op_branch hR (xs (nI (i + 1)).toNatClampNeg) K1 e1).2
  have E3 : vd_Iv K2 := iv_M (K1 := K1) (by rw [e1]; exact iv_br hI (xs (nI (i + 1)).toNatClampNeg)) (fun j hj => by rw [e2]; exact mf_wr (by decide) hj)
  refine lv_icmp_eq (tgt := 591) hx hb d_law_211 (by decide) (fun _ => ?_) (fun cq => absurd E1 cq)
  exact kk K2 _ _ E2 E3 HW
set_option maxHeartbeats 4000000 in
set_option maxRecDepth 100000 in
theorem law_turn {p : Program} {l : Launch} {e : Env} {s : State} {m : MethodId} {below : List Frame} {meth : Method} {c : Code} {D : va_G} {ad : Nat → Nat} {b L i : Nat} {xs : Nat → Int32} {Q : State → Prop} {K : KT} {H : Heap} {locs : List Loc} {ls : Array Slot} (hL : L ≤ 1536) (hi : i + 3 ≤ L) (CX : vd_Cx p s m c code 4 #[Value.ref b] R_law D) (HW : vd_WS D ad s K H locs) (hR : vd_Rel K) (hI : vd_Iv K) (hX : va_X b L xs s s.heap) (hbl : b < s.heap.size) (hbA : ¬ vd_Ad ad b) (hl : lv_has ls 4 [(0, .ref b), (1, .ref (ad 30)), (2, .ref (ad 35)), (3, .int (nI i))])
    (kk : ∀ (K' : KT) (H' : Heap) (locs' : List Loc), vd_Rel K' → vd_Iv K' → vd_WS D ad s K' H' locs' → W p l e room_1 s m #[Value.ref b] below meth c H' locs' 600000 7302250 Q (F0 m 591 ls [])) : W p l e room_1 s m #[Value.ref b] below meth c H locs 600000 7302250 Q (F0 m 216 ls []) := by
  have hx := CX.1
  have hb := CX.2.1
  have HB := HW.2.2.2
  refine lv_aload_n hx hb d_law_216 rfl (lv_at hl 1 rfl) ?_
  refine lv_aload_n hx hb d_law_217 rfl (lv_at hl 0 rfl) ?_
  refine lv_iload_n hx hb d_law_218 rfl (lv_at hl 3 rfl) ?_
  refine lv_iconst (v := nI 1) hx hb d_law_219 (by decide) ?_
  refine vd_iadd hx hb d_law_220 ?_
  refine va_sld hx hb hX hbl hbA HW.2.2.1 (vp_in_nI (by omega) (by omega)) d_law_221 ?_
  refine vd_callVi (As := [.int (xs (nI (i + 1)).toNatClampNeg)]) (rest := []) CX HW (k_turn l D ad K (xs (nI (i + 1)).toNatClampNeg)) mo_D_turn wi_D_turn ws_D_turn (vr_30 CX HW) ml_L_32 rfl rfl ⟨Nat.le_of_ble_eq_true rfl, Nat.le_of_ble_eq_true rfl⟩ hl.1 (Nat.le_of_ble_eq_true rfl) d_law_222 ⟨Nat.le_refl _, Nat.le_refl _⟩ (fun r1 K1 H locs p1 HW => ?_)
  refine lv_aload_n hx hb d_law_225 rfl (lv_at hl 2 rfl) ?_
  refine lv_aload_n hx hb d_law_226 rfl (lv_at hl 0 rfl) ?_
  refine lv_iload_n hx hb d_law_227 rfl (lv_at hl 3 rfl) ?_
  refine lv_iconst (v := nI 1) hx hb d_law_228 (by decide) ?_
  refine vd_iadd hx hb d_law_229 ?_
  refine va_sld hx hb hX hbl hbA HW.2.2.1 (vp_in_nI (by omega) (by omega)) d_law_230 ?_
  refine vd_callVi (As := [.int (xs (nI (i + 1)).toNatClampNeg)]) (rest := [.int r1]) CX HW (j_turn l D ad K1 (xs (nI (i + 1)).toNatClampNeg)) mo_M_turn wi_M_turn ws_M_turn (vr_35 CX HW) ml_L_35 rfl rfl ⟨Nat.le_of_ble_eq_true rfl, Nat.le_of_ble_eq_true rfl⟩ hl.1 (Nat.le_of_ble_eq_true rfl) d_law_231 ⟨Nat.le_refl _, Nat.le_refl _⟩ (fun r2 K2 H locs p2 HW => ?_)
  obtain ⟨e1, f1⟩ := p1
  obtain ⟨e2, f2⟩ := p2
  have E1 : r1 = r2 := by rw [f1, f2, e1]; exact (op_turn hR HB (xs (nI (i + 1)).toNatClampNeg)).1
  have E2 : vd_Rel K2 := by rw [e2, e1]; exact (op_turn hR HB (xs (nI (i + 1)).toNatClampNeg)).2
  have E3 : vd_Iv K2 := iv_M (K1 := K1) (by rw [e1]; exact iv_tu hI (xs (nI (i + 1)).toNatClampNeg)) (fun j hj => by rw [e2]; exact mf_tu hj)
  refine lv_icmp_eq (tgt := 591) hx hb d_law_234 (by decide) (fun _ => ?_) (fun cq => absurd E1 cq)
  exact kk K2 _ _ E2 E3 HW
set_option maxHeartbeats 4000000 in
set_option maxRecDepth 100000 in
theorem law_merge {p : Program} {l : Launch} {e : Env} {s : State} {m : MethodId} {below : List Frame} {meth : Method} {c : Code} {D : va_G} {ad : Nat → Nat} {b L i : Nat} {xs : Nat → Int32} {Q : State → Prop} {K : KT} {H : Heap} {locs : List Loc} {ls : Array Slot} (hL : L ≤ 1536) (hi : i + 3 ≤ L) (CX : vd_Cx p s m c code 4 #[Value.ref b] R_law D) (HW : vd_WS D ad s K H locs) (hR : vd_Rel K) (hI : vd_Iv K) (hX : va_X b L xs s s.heap) (hbl : b < s.heap.size) (hbA : ¬ vd_Ad ad b) (hl : lv_has ls 4 [(0, .ref b), (1, .ref (ad 30)), (2, .ref (ad 35)), (3, .int (nI i))])
    (kk : ∀ (K' : KT) (H' : Heap) (locs' : List Loc), vd_Rel K' → vd_Iv K' → vd_WS D ad s K' H' locs' → W p l e room_1 s m #[Value.ref b] below meth c H' locs' 600000 7302250 Q (F0 m 591 ls [])) : W p l e room_1 s m #[Value.ref b] below meth c H locs 600000 7302250 Q (F0 m 239 ls []) := by
  have hx := CX.1
  have hb := CX.2.1
  have HB := HW.2.2.2
  refine lv_aload_n hx hb d_law_239 rfl (lv_at hl 1 rfl) ?_
  refine lv_aload_n hx hb d_law_240 rfl (lv_at hl 0 rfl) ?_
  refine lv_iload_n hx hb d_law_241 rfl (lv_at hl 3 rfl) ?_
  refine lv_iconst (v := nI 1) hx hb d_law_242 (by decide) ?_
  refine vd_iadd hx hb d_law_243 ?_
  refine va_sld hx hb hX hbl hbA HW.2.2.1 (vp_in_nI (by omega) (by omega)) d_law_244 ?_
  refine vd_callVi (As := [.int (xs (nI (i + 1)).toNatClampNeg)]) (rest := []) CX HW (k_merge l D ad K (xs (nI (i + 1)).toNatClampNeg) hR.2.2.2.2.2.2.2.2.2.1.1 hR.2.2.2.2.2.2.2.2.2.1.2.1) mo_D_merge wi_D_merge ws_D_merge (vr_30 CX HW) ml_L_36 rfl rfl ⟨Nat.le_of_ble_eq_true rfl, Nat.le_of_ble_eq_true rfl⟩ hl.1 (Nat.le_of_ble_eq_true rfl) d_law_245 ⟨Nat.le_refl _, Nat.le_refl _⟩ (fun r1 K1 H locs p1 HW => ?_)
  refine lv_aload_n hx hb d_law_248 rfl (lv_at hl 2 rfl) ?_
  refine lv_aload_n hx hb d_law_249 rfl (lv_at hl 0 rfl) ?_
  refine lv_iload_n hx hb d_law_250 rfl (lv_at hl 3 rfl) ?_
  refine lv_iconst (v := nI 1) hx hb d_law_251 (by decide) ?_
  refine vd_iadd hx hb d_law_252 ?_
  refine va_sld hx hb hX hbl hbA HW.2.2.1 (vp_in_nI (by omega) (by omega)) d_law_253 ?_
  refine vd_callVi (As := [.int (xs (nI (i + 1)).toNatClampNeg)]) (rest := [.int r1]) CX HW (j_merge l D ad K1 (xs (nI (i + 1)).toNatClampNeg)) mo_M_merge wi_M_merge ws_M_merge (vr_35 CX HW) ml_L_39 rfl rfl ⟨Nat.le_of_ble_eq_true rfl, Nat.le_of_ble_eq_true rfl⟩ hl.1 (Nat.le_of_ble_eq_true rfl) d_law_254 ⟨Nat.le_refl _, Nat.le_refl _⟩ (fun r2 K2 H locs p2 HW => ?_)
  obtain ⟨e1, f1⟩ := p1
  obtain ⟨e2, f2⟩ := p2
  have E1 : r1 = r2 := by rw [f1, f2, e1]; exact (op_merge hR HB (xs (nI (i + 1)).toNatClampNeg)).1
  have E2 : vd_Rel K2 := by rw [e2, e1]; exact (op_merge hR HB (xs (nI (i + 1)).toNatClampNeg)).2
  have E3 : vd_Iv K2 := iv_M (K1 := K1) (by rw [e1]; exact iv_me hI (xs (nI (i + 1)).toNatClampNeg)) (fun j hj => by rw [e2]; exact mf_me hj)
  refine lv_icmp_eq (tgt := 591) hx hb d_law_257 (by decide) (fun _ => ?_) (fun cq => absurd E1 cq)
  exact kk K2 _ _ E2 E3 HW
set_option maxHeartbeats 4000000 in
set_option maxRecDepth 100000 in
theorem law_abort {p : Program} {l : Launch} {e : Env} {s : State} {m : MethodId} {below : List Frame} {meth : Method} {c : Code} {D : va_G} {ad : Nat → Nat} {b L i : Nat} {xs : Nat → Int32} {Q : State → Prop} {K : KT} {H : Heap} {locs : List Loc} {ls : Array Slot} (hL : L ≤ 1536) (hi : i + 3 ≤ L) (CX : vd_Cx p s m c code 4 #[Value.ref b] R_law D) (HW : vd_WS D ad s K H locs) (hR : vd_Rel K) (hI : vd_Iv K) (hX : va_X b L xs s s.heap) (hbl : b < s.heap.size) (hbA : ¬ vd_Ad ad b) (hl : lv_has ls 4 [(0, .ref b), (1, .ref (ad 30)), (2, .ref (ad 35)), (3, .int (nI i))])
    (kk : ∀ (K' : KT) (H' : Heap) (locs' : List Loc), vd_Rel K' → vd_Iv K' → vd_WS D ad s K' H' locs' → W p l e room_1 s m #[Value.ref b] below meth c H' locs' 600000 7302250 Q (F0 m 591 ls [])) : W p l e room_1 s m #[Value.ref b] below meth c H locs 600000 7302250 Q (F0 m 262 ls []) := by
  have hx := CX.1
  have hb := CX.2.1
  have HB := HW.2.2.2
  refine lv_aload_n hx hb d_law_262 rfl (lv_at hl 1 rfl) ?_
  refine vd_callVi (As := []) (rest := []) CX HW (k_abort l D ad K) mo_D_abort wi_D_abort ws_D_abort (vr_30 CX HW) ml_L_40 rfl rfl ⟨Nat.le_of_ble_eq_true rfl, Nat.le_of_ble_eq_true rfl⟩ hl.1 (Nat.le_of_ble_eq_true rfl) d_law_263 ⟨Nat.le_refl _, Nat.le_refl _⟩ (fun r1 K1 H locs p1 HW => ?_)
  refine lv_aload_n hx hb d_law_266 rfl (lv_at hl 2 rfl) ?_
  refine vd_callVi (As := []) (rest := [.int r1]) CX HW (j_abort l D ad K1) mo_M_abort wi_M_abort ws_M_abort (vr_35 CX HW) ml_L_43 rfl rfl ⟨Nat.le_of_ble_eq_true rfl, Nat.le_of_ble_eq_true rfl⟩ hl.1 (Nat.le_of_ble_eq_true rfl) d_law_267 ⟨Nat.le_refl _, Nat.le_refl _⟩ (fun r2 K2 H locs p2 HW => ?_)
  obtain ⟨e1, f1⟩ := p1
  obtain ⟨e2, f2⟩ := p2
  have E1 : r1 = r2 := by rw [f1, f2]; exact (op_abort hR HB K1 e1).1
  have E2 : vd_Rel K2 := by rw [e2]; exact (op_abort hR HB K1 e1).2
  have E3 : vd_Iv K2 := iv_M (K1 := K1) (by rw [e1]; exact iv_ab hI) (fun j hj => by rw [e2]; exact mf_ab hj)
  refine lv_icmp_eq (tgt := 591) hx hb d_law_270 (by decide) (fun _ => ?_) (fun cq => absurd E1 cq)
  exact kk K2 _ _ E2 E3 HW
set_option maxHeartbeats 4000000 in
set_option maxRecDepth 100000 in
theorem law_pick {p : Program} {l : Launch} {e : Env} {s : State} {m : MethodId} {below : List Frame} {meth : Method} {c : Code} {D : va_G} {ad : Nat → Nat} {b L i : Nat} {xs : Nat → Int32} {Q : State → Prop} {K : KT} {H : Heap} {locs : List Loc} {ls : Array Slot} (hL : L ≤ 1536) (hi : i + 3 ≤ L) (CX : vd_Cx p s m c code 4 #[Value.ref b] R_law D) (HW : vd_WS D ad s K H locs) (hR : vd_Rel K) (hI : vd_Iv K) (hX : va_X b L xs s s.heap) (hbl : b < s.heap.size) (hbA : ¬ vd_Ad ad b) (hl : lv_has ls 4 [(0, .ref b), (1, .ref (ad 30)), (2, .ref (ad 35)), (3, .int (nI i))])
    (kk : ∀ (K' : KT) (H' : Heap) (locs' : List Loc), vd_Rel K' → vd_Iv K' → vd_WS D ad s K' H' locs' → W p l e room_1 s m #[Value.ref b] below meth c H' locs' 600000 7302250 Q (F0 m 591 ls [])) : W p l e room_1 s m #[Value.ref b] below meth c H locs 600000 7302250 Q (F0 m 275 ls []) := by
  have hx := CX.1
  have hb := CX.2.1
  have HB := HW.2.2.2
  refine lv_aload_n hx hb d_law_275 rfl (lv_at hl 1 rfl) ?_
  refine lv_aload_n hx hb d_law_276 rfl (lv_at hl 0 rfl) ?_
  refine lv_iload_n hx hb d_law_277 rfl (lv_at hl 3 rfl) ?_
  refine lv_iconst (v := nI 1) hx hb d_law_278 (by decide) ?_
  refine vd_iadd hx hb d_law_279 ?_
  refine va_sld hx hb hX hbl hbA HW.2.2.1 (vp_in_nI (by omega) (by omega)) d_law_280 ?_
  refine vd_callVi (As := [.int (xs (nI (i + 1)).toNatClampNeg)]) (rest := []) CX HW (k_pick l D ad K (xs (nI (i + 1)).toNatClampNeg) hR.2.2.2.2.2.2.2.2.2.1.1 hR.2.2.2.2.2.2.2.2.2.1.2.1) mo_D_pick wi_D_pick ws_D_pick (vr_30 CX HW) ml_L_44 rfl rfl ⟨Nat.le_of_ble_eq_true rfl, Nat.le_of_ble_eq_true rfl⟩ hl.1 (Nat.le_of_ble_eq_true rfl) d_law_281 ⟨Nat.le_refl _, Nat.le_refl _⟩ (fun r1 K1 H locs p1 HW => ?_)
  refine lv_aload_n hx hb d_law_284 rfl (lv_at hl 2 rfl) ?_
  refine lv_aload_n hx hb d_law_285 rfl (lv_at hl 0 rfl) ?_
  refine lv_iload_n hx hb d_law_286 rfl (lv_at hl 3 rfl) ?_
  refine lv_iconst (v := nI 1) hx hb d_law_287 (by decide) ?_
  refine vd_iadd hx hb d_law_288 ?_
  refine va_sld hx hb hX hbl hbA HW.2.2.1 (vp_in_nI (by omega) (by omega)) d_law_289 ?_
  refine vd_callVi (As := [.int (xs (nI (i + 1)).toNatClampNeg)]) (rest := [.int r1]) CX HW (j_pick l D ad K1 (xs (nI (i + 1)).toNatClampNeg)) mo_M_pick wi_M_pick ws_M_pick (vr_35 CX HW) ml_L_47 rfl rfl ⟨Nat.le_of_ble_eq_true rfl, Nat.le_of_ble_eq_true rfl⟩ hl.1 (Nat.le_of_ble_eq_true rfl) d_law_290 ⟨Nat.le_refl _, Nat.le_refl _⟩ (fun r2 K2 H locs p2 HW => ?_)
  obtain ⟨e1, f1⟩ := p1
  obtain ⟨e2, f2⟩ := p2
  have E1 : r1 = r2 := by rw [f1, f2, e1]; exact (op_pick hR HB (xs (nI (i + 1)).toNatClampNeg)).1
  have E2 : vd_Rel K2 := by rw [e2, e1]; exact (op_pick hR HB (xs (nI (i + 1)).toNatClampNeg)).2
  have E3 : vd_Iv K2 := iv_M (K1 := K1) (by rw [e1]; exact iv_pi hI (xs (nI (i + 1)).toNatClampNeg)) (fun j hj => by rw [e2]; exact mf_pi hj)
  refine lv_icmp_eq (tgt := 591) hx hb d_law_293 (by decide) (fun _ => ?_) (fun cq => absurd E1 cq)
  exact kk K2 _ _ E2 E3 HW
set_option maxHeartbeats 4000000 in
set_option maxRecDepth 100000 in
theorem law_reset {p : Program} {l : Launch} {e : Env} {s : State} {m : MethodId} {below : List Frame} {meth : Method} {c : Code} {D : va_G} {ad : Nat → Nat} {b L i : Nat} {xs : Nat → Int32} {Q : State → Prop} {K : KT} {H : Heap} {locs : List Loc} {ls : Array Slot} (hL : L ≤ 1536) (hi : i + 3 ≤ L) (CX : vd_Cx p s m c code 4 #[Value.ref b] R_law D) (HW : vd_WS D ad s K H locs) (hR : vd_Rel K) (hI : vd_Iv K) (hX : va_X b L xs s s.heap) (hbl : b < s.heap.size) (hbA : ¬ vd_Ad ad b) (hl : lv_has ls 4 [(0, .ref b), (1, .ref (ad 30)), (2, .ref (ad 35)), (3, .int (nI i))])
    (kk : ∀ (K' : KT) (H' : Heap) (locs' : List Loc), vd_Rel K' → vd_Iv K' → vd_WS D ad s K' H' locs' → W p l e room_1 s m #[Value.ref b] below meth c H' locs' 600000 7302250 Q (F0 m 591 ls [])) : W p l e room_1 s m #[Value.ref b] below meth c H locs 600000 7302250 Q (F0 m 298 ls []) := by
  have hx := CX.1
  have hb := CX.2.1
  have HB := HW.2.2.2
  refine lv_aload_n hx hb d_law_298 rfl (lv_at hl 1 rfl) ?_
  refine lv_aload_n hx hb d_law_299 rfl (lv_at hl 0 rfl) ?_
  refine lv_iload_n hx hb d_law_300 rfl (lv_at hl 3 rfl) ?_
  refine lv_iconst (v := nI 1) hx hb d_law_301 (by decide) ?_
  refine vd_iadd hx hb d_law_302 ?_
  refine va_sld hx hb hX hbl hbA HW.2.2.1 (vp_in_nI (by omega) (by omega)) d_law_303 ?_
  refine vd_callVi (As := [.int (xs (nI (i + 1)).toNatClampNeg)]) (rest := []) CX HW (k_reset l D ad K (xs (nI (i + 1)).toNatClampNeg)) mo_D_reset wi_D_reset ws_D_reset (vr_30 CX HW) ml_L_48 rfl rfl ⟨Nat.le_of_ble_eq_true rfl, Nat.le_of_ble_eq_true rfl⟩ hl.1 (Nat.le_of_ble_eq_true rfl) d_law_304 ⟨Nat.le_refl _, Nat.le_refl _⟩ (fun r1 K1 H locs p1 HW => ?_)
  refine lv_aload_n hx hb d_law_307 rfl (lv_at hl 2 rfl) ?_
  refine lv_aload_n hx hb d_law_308 rfl (lv_at hl 0 rfl) ?_
  refine lv_iload_n hx hb d_law_309 rfl (lv_at hl 3 rfl) ?_
  refine lv_iconst (v := nI 1) hx hb d_law_310 (by decide) ?_
  refine vd_iadd hx hb d_law_311 ?_
  refine va_sld hx hb hX hbl hbA HW.2.2.1 (vp_in_nI (by omega) (by omega)) d_law_312 ?_
  refine vd_callVi (As := [.int (xs (nI (i + 1)).toNatClampNeg)]) (rest := [.int r1]) CX HW (j_reset l D ad K1 (xs (nI (i + 1)).toNatClampNeg)) mo_M_reset wi_M_reset ws_M_reset (vr_35 CX HW) ml_L_51 rfl rfl ⟨Nat.le_of_ble_eq_true rfl, Nat.le_of_ble_eq_true rfl⟩ hl.1 (Nat.le_of_ble_eq_true rfl) d_law_313 ⟨Nat.le_refl _, Nat.le_refl _⟩ (fun r2 K2 H locs p2 HW => ?_)
  obtain ⟨e1, f1⟩ := p1
  obtain ⟨e2, f2⟩ := p2
  have E1 : r1 = r2 := by rw [f1, f2]; exact (op_reset hR HB (xs (nI (i + 1)).toNatClampNeg) K1 e1).1
  have E2 : vd_Rel K2 := by rw [e2]; exact (op_reset hR HB (xs (nI (i + 1)).toNatClampNeg) K1 e1).2
  have E3 : vd_Iv K2 := iv_M (K1 := K1) (by rw [e1]; exact iv_rs hI (xs (nI (i + 1)).toNatClampNeg)) (fun j hj => by rw [e2]; exact mf_rs hj)
  refine lv_icmp_eq (tgt := 591) hx hb d_law_316 (by decide) (fun _ => ?_) (fun cq => absurd E1 cq)
  exact kk K2 _ _ E2 E3 HW
set_option maxHeartbeats 4000000 in
set_option maxRecDepth 100000 in
theorem law_remove {p : Program} {l : Launch} {e : Env} {s : State} {m : MethodId} {below : List Frame} {meth : Method} {c : Code} {D : va_G} {ad : Nat → Nat} {b L i : Nat} {xs : Nat → Int32} {Q : State → Prop} {K : KT} {H : Heap} {locs : List Loc} {ls : Array Slot} (hL : L ≤ 1536) (hi : i + 3 ≤ L) (CX : vd_Cx p s m c code 4 #[Value.ref b] R_law D) (HW : vd_WS D ad s K H locs) (hR : vd_Rel K) (hI : vd_Iv K) (hX : va_X b L xs s s.heap) (hbl : b < s.heap.size) (hbA : ¬ vd_Ad ad b) (hl : lv_has ls 4 [(0, .ref b), (1, .ref (ad 30)), (2, .ref (ad 35)), (3, .int (nI i))])
    (kk : ∀ (K' : KT) (H' : Heap) (locs' : List Loc), vd_Rel K' → vd_Iv K' → vd_WS D ad s K' H' locs' → W p l e room_1 s m #[Value.ref b] below meth c H' locs' 600000 7302250 Q (F0 m 591 ls [])) : W p l e room_1 s m #[Value.ref b] below meth c H locs 600000 7302250 Q (F0 m 321 ls []) := by
  have hx := CX.1
  have hb := CX.2.1
  have HB := HW.2.2.2
  refine lv_aload_n hx hb d_law_321 rfl (lv_at hl 1 rfl) ?_
  refine lv_aload_n hx hb d_law_322 rfl (lv_at hl 0 rfl) ?_
  refine lv_iload_n hx hb d_law_323 rfl (lv_at hl 3 rfl) ?_
  refine lv_iconst (v := nI 1) hx hb d_law_324 (by decide) ?_
  refine vd_iadd hx hb d_law_325 ?_
  refine va_sld hx hb hX hbl hbA HW.2.2.1 (vp_in_nI (by omega) (by omega)) d_law_326 ?_
  refine vd_callVi (As := [.int (xs (nI (i + 1)).toNatClampNeg)]) (rest := []) CX HW (k_remove l D ad K (xs (nI (i + 1)).toNatClampNeg)) mo_D_remove wi_D_remove ws_D_remove (vr_30 CX HW) ml_L_52 rfl rfl ⟨Nat.le_of_ble_eq_true rfl, Nat.le_of_ble_eq_true rfl⟩ hl.1 (Nat.le_of_ble_eq_true rfl) d_law_327 ⟨Nat.le_refl _, Nat.le_refl _⟩ (fun r1 K1 H locs p1 HW => ?_)
  refine lv_aload_n hx hb d_law_330 rfl (lv_at hl 2 rfl) ?_
  refine lv_aload_n hx hb d_law_331 rfl (lv_at hl 0 rfl) ?_
  refine lv_iload_n hx hb d_law_332 rfl (lv_at hl 3 rfl) ?_
  refine lv_iconst (v := nI 1) hx hb d_law_333 (by decide) ?_
  refine vd_iadd hx hb d_law_334 ?_
  refine va_sld hx hb hX hbl hbA HW.2.2.1 (vp_in_nI (by omega) (by omega)) d_law_335 ?_
  refine vd_callVi (As := [.int (xs (nI (i + 1)).toNatClampNeg)]) (rest := [.int r1]) CX HW (j_remove l D ad K1 (xs (nI (i + 1)).toNatClampNeg)) mo_M_remove wi_M_remove ws_M_remove (vr_35 CX HW) ml_L_55 rfl rfl ⟨Nat.le_of_ble_eq_true rfl, Nat.le_of_ble_eq_true rfl⟩ hl.1 (Nat.le_of_ble_eq_true rfl) d_law_336 ⟨Nat.le_refl _, Nat.le_refl _⟩ (fun r2 K2 H locs p2 HW => ?_)
  obtain ⟨e1, f1⟩ := p1
  obtain ⟨e2, f2⟩ := p2
  have E1 : r1 = r2 := by rw [f1, f2]; exact (op_remove hR (xs (nI (i + 1)).toNatClampNeg) K1 e1).1
  have E2 : vd_Rel K2 := by rw [e2]; exact (op_remove hR (xs (nI (i + 1)).toNatClampNeg) K1 e1).2
  have E3 : vd_Iv K2 := iv_M (K1 := K1) (by rw [e1]; exact iv_rm hI (xs (nI (i + 1)).toNatClampNeg)) (fun j hj => by rw [e2]; exact mf_wr2 (by decide) hj)
  refine lv_icmp_eq (tgt := 591) hx hb d_law_339 (by decide) (fun _ => ?_) (fun cq => absurd E1 cq)
  exact kk K2 _ _ E2 E3 HW
set_option maxHeartbeats 4000000 in
set_option maxRecDepth 100000 in
theorem law_sweep {p : Program} {l : Launch} {e : Env} {s : State} {m : MethodId} {below : List Frame} {meth : Method} {c : Code} {D : va_G} {ad : Nat → Nat} {b L i : Nat} {xs : Nat → Int32} {Q : State → Prop} {K : KT} {H : Heap} {locs : List Loc} {ls : Array Slot} (hL : L ≤ 1536) (hi : i + 3 ≤ L) (CX : vd_Cx p s m c code 4 #[Value.ref b] R_law D) (HW : vd_WS D ad s K H locs) (hR : vd_Rel K) (hI : vd_Iv K) (hX : va_X b L xs s s.heap) (hbl : b < s.heap.size) (hbA : ¬ vd_Ad ad b) (hl : lv_has ls 4 [(0, .ref b), (1, .ref (ad 30)), (2, .ref (ad 35)), (3, .int (nI i))])
    (kk : ∀ (K' : KT) (H' : Heap) (locs' : List Loc), vd_Rel K' → vd_Iv K' → vd_WS D ad s K' H' locs' → W p l e room_1 s m #[Value.ref b] below meth c H' locs' 600000 7302250 Q (F0 m 591 ls [])) : W p l e room_1 s m #[Value.ref b] below meth c H locs 600000 7302250 Q (F0 m 344 ls []) := by
  have hx := CX.1
  have hb := CX.2.1
  have HB := HW.2.2.2
  refine lv_aload_n hx hb d_law_344 rfl (lv_at hl 1 rfl) ?_
  refine vd_callVi (As := []) (rest := []) CX HW (k_sweep l D ad K) mo_D_sweep wi_D_sweep ws_D_sweep (vr_30 CX HW) ml_L_56 rfl rfl ⟨Nat.le_of_ble_eq_true rfl, Nat.le_of_ble_eq_true rfl⟩ hl.1 (Nat.le_of_ble_eq_true rfl) d_law_345 ⟨Nat.le_refl _, Nat.le_refl _⟩ (fun r1 K1 H locs p1 HW => ?_)
  refine lv_aload_n hx hb d_law_348 rfl (lv_at hl 2 rfl) ?_
  refine vd_callVi (As := []) (rest := [.int r1]) CX HW (j_sweep l D ad K1) mo_M_sweep wi_M_sweep ws_M_sweep (vr_35 CX HW) ml_L_59 rfl rfl ⟨Nat.le_of_ble_eq_true rfl, Nat.le_of_ble_eq_true rfl⟩ hl.1 (Nat.le_of_ble_eq_true rfl) d_law_349 ⟨Nat.le_refl _, Nat.le_refl _⟩ (fun r2 K2 H locs p2 HW => ?_)
  obtain ⟨e1, f1⟩ := p1
  obtain ⟨e2, f2⟩ := p2
  have E1 : r1 = r2 := by rw [f1, f2, e1]; exact (op_sweep hR HB (by rw [← e1, ← e2]; exact HW.2.2.2)).1
  have E2 : vd_Rel K2 := by rw [e2, e1]; exact (op_sweep hR HB (by rw [← e1, ← e2]; exact HW.2.2.2)).2
  have E3 : vd_Iv K2 := iv_M (K1 := K1) (by rw [e1]; exact iv_sw hI) (fun j hj => by rw [e2]; exact mf_sw hj)
  refine lv_icmp_eq (tgt := 591) hx hb d_law_352 (by decide) (fun _ => ?_) (fun cq => absurd E1 cq)
  exact kk K2 _ _ E2 E3 HW
set_option maxHeartbeats 4000000 in
set_option maxRecDepth 100000 in
theorem law_content {p : Program} {l : Launch} {e : Env} {s : State} {m : MethodId} {below : List Frame} {meth : Method} {c : Code} {D : va_G} {ad : Nat → Nat} {b L i : Nat} {xs : Nat → Int32} {Q : State → Prop} {K : KT} {H : Heap} {locs : List Loc} {ls : Array Slot} (hL : L ≤ 1536) (hi : i + 3 ≤ L) (CX : vd_Cx p s m c code 4 #[Value.ref b] R_law D) (HW : vd_WS D ad s K H locs) (hR : vd_Rel K) (hI : vd_Iv K) (hX : va_X b L xs s s.heap) (hbl : b < s.heap.size) (hbA : ¬ vd_Ad ad b) (hl : lv_has ls 4 [(0, .ref b), (1, .ref (ad 30)), (2, .ref (ad 35)), (3, .int (nI i))])
    (kk : ∀ (K' : KT) (H' : Heap) (locs' : List Loc), vd_Rel K' → vd_Iv K' → vd_WS D ad s K' H' locs' → W p l e room_1 s m #[Value.ref b] below meth c H' locs' 600000 7302250 Q (F0 m 591 ls [])) : W p l e room_1 s m #[Value.ref b] below meth c H locs 600000 7302250 Q (F0 m 357 ls []) := by
  have hx := CX.1
  have hb := CX.2.1
  have HB := HW.2.2.2
  refine lv_aload_n hx hb d_law_357 rfl (lv_at hl 1 rfl) ?_
  refine lv_aload_n hx hb d_law_358 rfl (lv_at hl 0 rfl) ?_
  refine lv_iload_n hx hb d_law_359 rfl (lv_at hl 3 rfl) ?_
  refine lv_iconst (v := nI 1) hx hb d_law_360 (by decide) ?_
  refine vd_iadd hx hb d_law_361 ?_
  refine va_sld hx hb hX hbl hbA HW.2.2.1 (vp_in_nI (by omega) (by omega)) d_law_362 ?_
  refine lv_aload_n hx hb d_law_363 rfl (lv_at hl 0 rfl) ?_
  refine lv_iload_n hx hb d_law_364 rfl (lv_at hl 3 rfl) ?_
  refine lv_iconst (v := nI 2) hx hb d_law_365 (by decide) ?_
  refine vd_iadd hx hb d_law_366 ?_
  refine va_sld hx hb hX hbl hbA HW.2.2.1 (vp_in_nI (by omega) (by omega)) d_law_367 ?_
  refine vd_callVi (As := [.int (xs (nI (i + 1)).toNatClampNeg), .int (xs (nI (i + 2)).toNatClampNeg)]) (rest := []) CX HW (k_content l D ad K (xs (nI (i + 1)).toNatClampNeg) (xs (nI (i + 2)).toNatClampNeg)) mo_D_content wi_D_content ws_D_content (vr_30 CX HW) ml_L_60 rfl rfl ⟨Nat.le_of_ble_eq_true rfl, Nat.le_of_ble_eq_true rfl⟩ hl.1 (Nat.le_of_ble_eq_true rfl) d_law_368 ⟨Nat.le_refl _, Nat.le_refl _⟩ (fun r1 K1 H locs p1 HW => ?_)
  refine lv_aload_n hx hb d_law_371 rfl (lv_at hl 2 rfl) ?_
  refine lv_aload_n hx hb d_law_372 rfl (lv_at hl 0 rfl) ?_
  refine lv_iload_n hx hb d_law_373 rfl (lv_at hl 3 rfl) ?_
  refine lv_iconst (v := nI 1) hx hb d_law_374 (by decide) ?_
  refine vd_iadd hx hb d_law_375 ?_
  refine va_sld hx hb hX hbl hbA HW.2.2.1 (vp_in_nI (by omega) (by omega)) d_law_376 ?_
  refine lv_aload_n hx hb d_law_377 rfl (lv_at hl 0 rfl) ?_
  refine lv_iload_n hx hb d_law_378 rfl (lv_at hl 3 rfl) ?_
  refine lv_iconst (v := nI 2) hx hb d_law_379 (by decide) ?_
  refine vd_iadd hx hb d_law_380 ?_
  refine va_sld hx hb hX hbl hbA HW.2.2.1 (vp_in_nI (by omega) (by omega)) d_law_381 ?_
  refine vd_callVi (As := [.int (xs (nI (i + 1)).toNatClampNeg), .int (xs (nI (i + 2)).toNatClampNeg)]) (rest := [.int r1]) CX HW (j_content l D ad K1 (xs (nI (i + 1)).toNatClampNeg) (xs (nI (i + 2)).toNatClampNeg)) mo_M_content wi_M_content ws_M_content (vr_35 CX HW) ml_L_63 rfl rfl ⟨Nat.le_of_ble_eq_true rfl, Nat.le_of_ble_eq_true rfl⟩ hl.1 (Nat.le_of_ble_eq_true rfl) d_law_382 ⟨Nat.le_refl _, Nat.le_refl _⟩ (fun r2 K2 H locs p2 HW => ?_)
  obtain ⟨e1, f1⟩ := p1
  obtain ⟨e2, f2⟩ := p2
  have E1 : r1 = r2 := by rw [f1, f2, ← e1]; exact op_content hR (xs (nI (i + 1)).toNatClampNeg) (xs (nI (i + 2)).toNatClampNeg)
  have E2 : vd_Rel K2 := by rw [← e2, ← e1]; exact hR
  have E3 : vd_Iv K2 := by rw [← e2, ← e1]; exact hI
  refine lv_icmp_eq (tgt := 591) hx hb d_law_385 (by decide) (fun _ => ?_) (fun cq => absurd E1 cq)
  exact kk K2 _ _ E2 E3 HW
set_option maxHeartbeats 4000000 in
set_option maxRecDepth 100000 in
theorem law_at {p : Program} {l : Launch} {e : Env} {s : State} {m : MethodId} {below : List Frame} {meth : Method} {c : Code} {D : va_G} {ad : Nat → Nat} {b L i : Nat} {xs : Nat → Int32} {Q : State → Prop} {K : KT} {H : Heap} {locs : List Loc} {ls : Array Slot} (hL : L ≤ 1536) (hi : i + 3 ≤ L) (CX : vd_Cx p s m c code 4 #[Value.ref b] R_law D) (HW : vd_WS D ad s K H locs) (hR : vd_Rel K) (hI : vd_Iv K) (hX : va_X b L xs s s.heap) (hbl : b < s.heap.size) (hbA : ¬ vd_Ad ad b) (hl : lv_has ls 4 [(0, .ref b), (1, .ref (ad 30)), (2, .ref (ad 35)), (3, .int (nI i))])
    (kk : ∀ (K' : KT) (H' : Heap) (locs' : List Loc), vd_Rel K' → vd_Iv K' → vd_WS D ad s K' H' locs' → W p l e room_1 s m #[Value.ref b] below meth c H' locs' 600000 7302250 Q (F0 m 591 ls [])) : W p l e room_1 s m #[Value.ref b] below meth c H locs 600000 7302250 Q (F0 m 390 ls []) := by
  have hx := CX.1
  have hb := CX.2.1
  have HB := HW.2.2.2
  refine lv_aload_n hx hb d_law_390 rfl (lv_at hl 1 rfl) ?_
  refine lv_aload_n hx hb d_law_391 rfl (lv_at hl 0 rfl) ?_
  refine lv_iload_n hx hb d_law_392 rfl (lv_at hl 3 rfl) ?_
  refine lv_iconst (v := nI 1) hx hb d_law_393 (by decide) ?_
  refine vd_iadd hx hb d_law_394 ?_
  refine va_sld hx hb hX hbl hbA HW.2.2.1 (vp_in_nI (by omega) (by omega)) d_law_395 ?_
  refine lv_aload_n hx hb d_law_396 rfl (lv_at hl 0 rfl) ?_
  refine lv_iload_n hx hb d_law_397 rfl (lv_at hl 3 rfl) ?_
  refine lv_iconst (v := nI 2) hx hb d_law_398 (by decide) ?_
  refine vd_iadd hx hb d_law_399 ?_
  refine va_sld hx hb hX hbl hbA HW.2.2.1 (vp_in_nI (by omega) (by omega)) d_law_400 ?_
  refine vd_callVi (As := [.int (xs (nI (i + 1)).toNatClampNeg), .int (xs (nI (i + 2)).toNatClampNeg)]) (rest := []) CX HW (k_at l D ad K (xs (nI (i + 1)).toNatClampNeg) (xs (nI (i + 2)).toNatClampNeg)) mo_D_at wi_D_at ws_D_at (vr_30 CX HW) ml_L_64 rfl rfl ⟨Nat.le_of_ble_eq_true rfl, Nat.le_of_ble_eq_true rfl⟩ hl.1 (Nat.le_of_ble_eq_true rfl) d_law_401 ⟨Nat.le_refl _, Nat.le_refl _⟩ (fun r1 K1 H locs p1 HW => ?_)
  refine lv_aload_n hx hb d_law_404 rfl (lv_at hl 2 rfl) ?_
  refine lv_aload_n hx hb d_law_405 rfl (lv_at hl 0 rfl) ?_
  refine lv_iload_n hx hb d_law_406 rfl (lv_at hl 3 rfl) ?_
  refine lv_iconst (v := nI 1) hx hb d_law_407 (by decide) ?_
  refine vd_iadd hx hb d_law_408 ?_
  refine va_sld hx hb hX hbl hbA HW.2.2.1 (vp_in_nI (by omega) (by omega)) d_law_409 ?_
  refine lv_aload_n hx hb d_law_410 rfl (lv_at hl 0 rfl) ?_
  refine lv_iload_n hx hb d_law_411 rfl (lv_at hl 3 rfl) ?_
  refine lv_iconst (v := nI 2) hx hb d_law_412 (by decide) ?_
  refine vd_iadd hx hb d_law_413 ?_
  refine va_sld hx hb hX hbl hbA HW.2.2.1 (vp_in_nI (by omega) (by omega)) d_law_414 ?_
  refine vd_callVi (As := [.int (xs (nI (i + 1)).toNatClampNeg), .int (xs (nI (i + 2)).toNatClampNeg)]) (rest := [.int r1]) CX HW (j_at l D ad K1 (xs (nI (i + 1)).toNatClampNeg) (xs (nI (i + 2)).toNatClampNeg)) mo_M_at wi_M_at ws_M_at (vr_35 CX HW) ml_L_67 rfl rfl ⟨Nat.le_of_ble_eq_true rfl, Nat.le_of_ble_eq_true rfl⟩ hl.1 (Nat.le_of_ble_eq_true rfl) d_law_415 ⟨Nat.le_refl _, Nat.le_refl _⟩ (fun r2 K2 H locs p2 HW => ?_)
  obtain ⟨e1, f1⟩ := p1
  obtain ⟨e2, f2⟩ := p2
  have E1 : r1 = r2 := by rw [f1, f2, ← e1]; exact op_at hR (xs (nI (i + 1)).toNatClampNeg) (xs (nI (i + 2)).toNatClampNeg)
  have E2 : vd_Rel K2 := by rw [← e2, ← e1]; exact hR
  have E3 : vd_Iv K2 := by rw [← e2, ← e1]; exact hI
  refine lv_icmp_eq (tgt := 591) hx hb d_law_418 (by decide) (fun _ => ?_) (fun cq => absurd E1 cq)
  exact kk K2 _ _ E2 E3 HW
set_option maxHeartbeats 4000000 in
set_option maxRecDepth 100000 in
theorem law_parent {p : Program} {l : Launch} {e : Env} {s : State} {m : MethodId} {below : List Frame} {meth : Method} {c : Code} {D : va_G} {ad : Nat → Nat} {b L i : Nat} {xs : Nat → Int32} {Q : State → Prop} {K : KT} {H : Heap} {locs : List Loc} {ls : Array Slot} (hL : L ≤ 1536) (hi : i + 3 ≤ L) (CX : vd_Cx p s m c code 4 #[Value.ref b] R_law D) (HW : vd_WS D ad s K H locs) (hR : vd_Rel K) (hI : vd_Iv K) (hX : va_X b L xs s s.heap) (hbl : b < s.heap.size) (hbA : ¬ vd_Ad ad b) (hl : lv_has ls 4 [(0, .ref b), (1, .ref (ad 30)), (2, .ref (ad 35)), (3, .int (nI i))])
    (kk : ∀ (K' : KT) (H' : Heap) (locs' : List Loc), vd_Rel K' → vd_Iv K' → vd_WS D ad s K' H' locs' → W p l e room_1 s m #[Value.ref b] below meth c H' locs' 600000 7302250 Q (F0 m 591 ls [])) : W p l e room_1 s m #[Value.ref b] below meth c H locs 600000 7302250 Q (F0 m 423 ls []) := by
  have hx := CX.1
  have hb := CX.2.1
  have HB := HW.2.2.2
  refine lv_aload_n hx hb d_law_423 rfl (lv_at hl 1 rfl) ?_
  refine lv_aload_n hx hb d_law_424 rfl (lv_at hl 0 rfl) ?_
  refine lv_iload_n hx hb d_law_425 rfl (lv_at hl 3 rfl) ?_
  refine lv_iconst (v := nI 1) hx hb d_law_426 (by decide) ?_
  refine vd_iadd hx hb d_law_427 ?_
  refine va_sld hx hb hX hbl hbA HW.2.2.1 (vp_in_nI (by omega) (by omega)) d_law_428 ?_
  refine lv_aload_n hx hb d_law_429 rfl (lv_at hl 0 rfl) ?_
  refine lv_iload_n hx hb d_law_430 rfl (lv_at hl 3 rfl) ?_
  refine lv_iconst (v := nI 2) hx hb d_law_431 (by decide) ?_
  refine vd_iadd hx hb d_law_432 ?_
  refine va_sld hx hb hX hbl hbA HW.2.2.1 (vp_in_nI (by omega) (by omega)) d_law_433 ?_
  refine vd_callVi (As := [.int (xs (nI (i + 1)).toNatClampNeg), .int (xs (nI (i + 2)).toNatClampNeg)]) (rest := []) CX HW (k_parent l D ad K (xs (nI (i + 1)).toNatClampNeg) (xs (nI (i + 2)).toNatClampNeg)) mo_D_parent wi_D_parent ws_D_parent (vr_30 CX HW) ml_L_68 rfl rfl ⟨Nat.le_of_ble_eq_true rfl, Nat.le_of_ble_eq_true rfl⟩ hl.1 (Nat.le_of_ble_eq_true rfl) d_law_434 ⟨Nat.le_refl _, Nat.le_refl _⟩ (fun r1 K1 H locs p1 HW => ?_)
  refine lv_aload_n hx hb d_law_437 rfl (lv_at hl 2 rfl) ?_
  refine lv_aload_n hx hb d_law_438 rfl (lv_at hl 0 rfl) ?_
  refine lv_iload_n hx hb d_law_439 rfl (lv_at hl 3 rfl) ?_
  refine lv_iconst (v := nI 1) hx hb d_law_440 (by decide) ?_
  refine vd_iadd hx hb d_law_441 ?_
  refine va_sld hx hb hX hbl hbA HW.2.2.1 (vp_in_nI (by omega) (by omega)) d_law_442 ?_
  refine lv_aload_n hx hb d_law_443 rfl (lv_at hl 0 rfl) ?_
  refine lv_iload_n hx hb d_law_444 rfl (lv_at hl 3 rfl) ?_
  refine lv_iconst (v := nI 2) hx hb d_law_445 (by decide) ?_
  refine vd_iadd hx hb d_law_446 ?_
  refine va_sld hx hb hX hbl hbA HW.2.2.1 (vp_in_nI (by omega) (by omega)) d_law_447 ?_
  refine vd_callVi (As := [.int (xs (nI (i + 1)).toNatClampNeg), .int (xs (nI (i + 2)).toNatClampNeg)]) (rest := [.int r1]) CX HW (j_parent l D ad K1 (xs (nI (i + 1)).toNatClampNeg) (xs (nI (i + 2)).toNatClampNeg)) mo_M_parent wi_M_parent ws_M_parent (vr_35 CX HW) ml_L_71 rfl rfl ⟨Nat.le_of_ble_eq_true rfl, Nat.le_of_ble_eq_true rfl⟩ hl.1 (Nat.le_of_ble_eq_true rfl) d_law_448 ⟨Nat.le_refl _, Nat.le_refl _⟩ (fun r2 K2 H locs p2 HW => ?_)
  obtain ⟨e1, f1⟩ := p1
  obtain ⟨e2, f2⟩ := p2
  have E1 : r1 = r2 := by rw [f1, f2, ← e1]; exact op_parent hR (xs (nI (i + 1)).toNatClampNeg) (xs (nI (i + 2)).toNatClampNeg)
  have E2 : vd_Rel K2 := by rw [← e2, ← e1]; exact hR
  have E3 : vd_Iv K2 := by rw [← e2, ← e1]; exact hI
  refine lv_icmp_eq (tgt := 591) hx hb d_law_451 (by decide) (fun _ => ?_) (fun cq => absurd E1 cq)
  exact kk K2 _ _ E2 E3 HW
set_option maxHeartbeats 4000000 in
set_option maxRecDepth 100000 in
theorem law_branchAt {p : Program} {l : Launch} {e : Env} {s : State} {m : MethodId} {below : List Frame} {meth : Method} {c : Code} {D : va_G} {ad : Nat → Nat} {b L i : Nat} {xs : Nat → Int32} {Q : State → Prop} {K : KT} {H : Heap} {locs : List Loc} {ls : Array Slot} (hL : L ≤ 1536) (hi : i + 3 ≤ L) (CX : vd_Cx p s m c code 4 #[Value.ref b] R_law D) (HW : vd_WS D ad s K H locs) (hR : vd_Rel K) (hI : vd_Iv K) (hX : va_X b L xs s s.heap) (hbl : b < s.heap.size) (hbA : ¬ vd_Ad ad b) (hl : lv_has ls 4 [(0, .ref b), (1, .ref (ad 30)), (2, .ref (ad 35)), (3, .int (nI i))])
    (kk : ∀ (K' : KT) (H' : Heap) (locs' : List Loc), vd_Rel K' → vd_Iv K' → vd_WS D ad s K' H' locs' → W p l e room_1 s m #[Value.ref b] below meth c H' locs' 600000 7302250 Q (F0 m 591 ls [])) : W p l e room_1 s m #[Value.ref b] below meth c H locs 600000 7302250 Q (F0 m 456 ls []) := by
  have hx := CX.1
  have hb := CX.2.1
  have HB := HW.2.2.2
  refine lv_aload_n hx hb d_law_456 rfl (lv_at hl 1 rfl) ?_
  refine lv_aload_n hx hb d_law_457 rfl (lv_at hl 0 rfl) ?_
  refine lv_iload_n hx hb d_law_458 rfl (lv_at hl 3 rfl) ?_
  refine lv_iconst (v := nI 1) hx hb d_law_459 (by decide) ?_
  refine vd_iadd hx hb d_law_460 ?_
  refine va_sld hx hb hX hbl hbA HW.2.2.1 (vp_in_nI (by omega) (by omega)) d_law_461 ?_
  refine vd_callVi (As := [.int (xs (nI (i + 1)).toNatClampNeg)]) (rest := []) CX HW (k_branchAt l D ad K (xs (nI (i + 1)).toNatClampNeg)) mo_D_branchAt wi_D_branchAt ws_D_branchAt (vr_30 CX HW) ml_L_72 rfl rfl ⟨Nat.le_of_ble_eq_true rfl, Nat.le_of_ble_eq_true rfl⟩ hl.1 (Nat.le_of_ble_eq_true rfl) d_law_462 ⟨Nat.le_refl _, Nat.le_refl _⟩ (fun r1 K1 H locs p1 HW => ?_)
  refine lv_aload_n hx hb d_law_465 rfl (lv_at hl 2 rfl) ?_
  refine lv_aload_n hx hb d_law_466 rfl (lv_at hl 0 rfl) ?_
  refine lv_iload_n hx hb d_law_467 rfl (lv_at hl 3 rfl) ?_
  refine lv_iconst (v := nI 1) hx hb d_law_468 (by decide) ?_
  refine vd_iadd hx hb d_law_469 ?_
  refine va_sld hx hb hX hbl hbA HW.2.2.1 (vp_in_nI (by omega) (by omega)) d_law_470 ?_
  refine vd_callVi (As := [.int (xs (nI (i + 1)).toNatClampNeg)]) (rest := [.int r1]) CX HW (j_branchAt l D ad K1 (xs (nI (i + 1)).toNatClampNeg)) mo_M_branchAt wi_M_branchAt ws_M_branchAt (vr_35 CX HW) ml_L_75 rfl rfl ⟨Nat.le_of_ble_eq_true rfl, Nat.le_of_ble_eq_true rfl⟩ hl.1 (Nat.le_of_ble_eq_true rfl) d_law_471 ⟨Nat.le_refl _, Nat.le_refl _⟩ (fun r2 K2 H locs p2 HW => ?_)
  obtain ⟨e1, f1⟩ := p1
  obtain ⟨e2, f2⟩ := p2
  have E1 : r1 = r2 := by rw [f1, f2, ← e1]; exact op_branchAt hR (xs (nI (i + 1)).toNatClampNeg)
  have E2 : vd_Rel K2 := by rw [← e2, ← e1]; exact hR
  have E3 : vd_Iv K2 := by rw [← e2, ← e1]; exact hI
  refine lv_icmp_eq (tgt := 591) hx hb d_law_474 (by decide) (fun _ => ?_) (fun cq => absurd E1 cq)
  exact kk K2 _ _ E2 E3 HW
set_option maxHeartbeats 4000000 in
set_option maxRecDepth 100000 in
theorem law_common {p : Program} {l : Launch} {e : Env} {s : State} {m : MethodId} {below : List Frame} {meth : Method} {c : Code} {D : va_G} {ad : Nat → Nat} {b L i : Nat} {xs : Nat → Int32} {Q : State → Prop} {K : KT} {H : Heap} {locs : List Loc} {ls : Array Slot} (hL : L ≤ 1536) (hi : i + 3 ≤ L) (CX : vd_Cx p s m c code 4 #[Value.ref b] R_law D) (HW : vd_WS D ad s K H locs) (hR : vd_Rel K) (hI : vd_Iv K) (hX : va_X b L xs s s.heap) (hbl : b < s.heap.size) (hbA : ¬ vd_Ad ad b) (hl : lv_has ls 4 [(0, .ref b), (1, .ref (ad 30)), (2, .ref (ad 35)), (3, .int (nI i))])
    (kk : ∀ (K' : KT) (H' : Heap) (locs' : List Loc), vd_Rel K' → vd_Iv K' → vd_WS D ad s K' H' locs' → W p l e room_1 s m #[Value.ref b] below meth c H' locs' 600000 7302250 Q (F0 m 591 ls [])) : W p l e room_1 s m #[Value.ref b] below meth c H locs 600000 7302250 Q (F0 m 479 ls []) := by
  have hx := CX.1
  have hb := CX.2.1
  have HB := HW.2.2.2
  refine lv_aload_n hx hb d_law_479 rfl (lv_at hl 1 rfl) ?_
  refine lv_aload_n hx hb d_law_480 rfl (lv_at hl 0 rfl) ?_
  refine lv_iload_n hx hb d_law_481 rfl (lv_at hl 3 rfl) ?_
  refine lv_iconst (v := nI 1) hx hb d_law_482 (by decide) ?_
  refine vd_iadd hx hb d_law_483 ?_
  refine va_sld hx hb hX hbl hbA HW.2.2.1 (vp_in_nI (by omega) (by omega)) d_law_484 ?_
  refine lv_aload_n hx hb d_law_485 rfl (lv_at hl 0 rfl) ?_
  refine lv_iload_n hx hb d_law_486 rfl (lv_at hl 3 rfl) ?_
  refine lv_iconst (v := nI 2) hx hb d_law_487 (by decide) ?_
  refine vd_iadd hx hb d_law_488 ?_
  refine va_sld hx hb hX hbl hbA HW.2.2.1 (vp_in_nI (by omega) (by omega)) d_law_489 ?_
  refine vd_callVi (As := [.int (xs (nI (i + 1)).toNatClampNeg), .int (xs (nI (i + 2)).toNatClampNeg)]) (rest := []) CX HW (k_common l D ad K (xs (nI (i + 1)).toNatClampNeg) (xs (nI (i + 2)).toNatClampNeg)) mo_D_common wi_D_common ws_D_common (vr_30 CX HW) ml_L_76 rfl rfl ⟨Nat.le_of_ble_eq_true rfl, Nat.le_of_ble_eq_true rfl⟩ hl.1 (Nat.le_of_ble_eq_true rfl) d_law_490 ⟨Nat.le_refl _, Nat.le_refl _⟩ (fun r1 K1 H locs p1 HW => ?_)
  refine lv_aload_n hx hb d_law_493 rfl (lv_at hl 2 rfl) ?_
  refine lv_aload_n hx hb d_law_494 rfl (lv_at hl 0 rfl) ?_
  refine lv_iload_n hx hb d_law_495 rfl (lv_at hl 3 rfl) ?_
  refine lv_iconst (v := nI 1) hx hb d_law_496 (by decide) ?_
  refine vd_iadd hx hb d_law_497 ?_
  refine va_sld hx hb hX hbl hbA HW.2.2.1 (vp_in_nI (by omega) (by omega)) d_law_498 ?_
  refine lv_aload_n hx hb d_law_499 rfl (lv_at hl 0 rfl) ?_
  refine lv_iload_n hx hb d_law_500 rfl (lv_at hl 3 rfl) ?_
  refine lv_iconst (v := nI 2) hx hb d_law_501 (by decide) ?_
  refine vd_iadd hx hb d_law_502 ?_
  refine va_sld hx hb hX hbl hbA HW.2.2.1 (vp_in_nI (by omega) (by omega)) d_law_503 ?_
  refine vd_callVi (As := [.int (xs (nI (i + 1)).toNatClampNeg), .int (xs (nI (i + 2)).toNatClampNeg)]) (rest := [.int r1]) CX HW (j_common l D ad K1 (xs (nI (i + 1)).toNatClampNeg) (xs (nI (i + 2)).toNatClampNeg)) mo_M_common wi_M_common ws_M_common (vr_35 CX HW) ml_L_79 rfl rfl ⟨Nat.le_of_ble_eq_true rfl, Nat.le_of_ble_eq_true rfl⟩ hl.1 (Nat.le_of_ble_eq_true rfl) d_law_504 ⟨Nat.le_refl _, Nat.le_refl _⟩ (fun r2 K2 H locs p2 HW => ?_)
  obtain ⟨e1, f1⟩ := p1
  obtain ⟨e2, f2⟩ := p2
  have E1 : r1 = r2 := by rw [f1, f2, ← e1]; exact op_common hR HB (xs (nI (i + 1)).toNatClampNeg) (xs (nI (i + 2)).toNatClampNeg)
  have E2 : vd_Rel K2 := by rw [e2, ← e1]; exact op_commonK hR (xs (nI (i + 1)).toNatClampNeg) (xs (nI (i + 2)).toNatClampNeg)
  have E3 : vd_Iv K2 := iv_M (K1 := K1) (by rw [← e1]; exact hI) (fun j hj => by rw [e2]; exact mf_co hj)
  refine lv_icmp_eq (tgt := 591) hx hb d_law_507 (by decide) (fun _ => ?_) (fun cq => absurd E1 cq)
  exact kk K2 _ _ E2 E3 HW
set_option maxHeartbeats 4000000 in
set_option maxRecDepth 100000 in
theorem law_differ {p : Program} {l : Launch} {e : Env} {s : State} {m : MethodId} {below : List Frame} {meth : Method} {c : Code} {D : va_G} {ad : Nat → Nat} {b L i : Nat} {xs : Nat → Int32} {Q : State → Prop} {K : KT} {H : Heap} {locs : List Loc} {ls : Array Slot} (hL : L ≤ 1536) (hi : i + 3 ≤ L) (CX : vd_Cx p s m c code 4 #[Value.ref b] R_law D) (HW : vd_WS D ad s K H locs) (hR : vd_Rel K) (hI : vd_Iv K) (hX : va_X b L xs s s.heap) (hbl : b < s.heap.size) (hbA : ¬ vd_Ad ad b) (hl : lv_has ls 4 [(0, .ref b), (1, .ref (ad 30)), (2, .ref (ad 35)), (3, .int (nI i))])
    (kk : ∀ (K' : KT) (H' : Heap) (locs' : List Loc), vd_Rel K' → vd_Iv K' → vd_WS D ad s K' H' locs' → W p l e room_1 s m #[Value.ref b] below meth c H' locs' 600000 7302250 Q (F0 m 591 ls [])) : W p l e room_1 s m #[Value.ref b] below meth c H locs 600000 7302250 Q (F0 m 512 ls []) := by
  have hx := CX.1
  have hb := CX.2.1
  have HB := HW.2.2.2
  refine lv_aload_n hx hb d_law_512 rfl (lv_at hl 1 rfl) ?_
  refine lv_aload_n hx hb d_law_513 rfl (lv_at hl 0 rfl) ?_
  refine lv_iload_n hx hb d_law_514 rfl (lv_at hl 3 rfl) ?_
  refine lv_iconst (v := nI 1) hx hb d_law_515 (by decide) ?_
  refine vd_iadd hx hb d_law_516 ?_
  refine va_sld hx hb hX hbl hbA HW.2.2.1 (vp_in_nI (by omega) (by omega)) d_law_517 ?_
  refine lv_aload_n hx hb d_law_518 rfl (lv_at hl 0 rfl) ?_
  refine lv_iload_n hx hb d_law_519 rfl (lv_at hl 3 rfl) ?_
  refine lv_iconst (v := nI 2) hx hb d_law_520 (by decide) ?_
  refine vd_iadd hx hb d_law_521 ?_
  refine va_sld hx hb hX hbl hbA HW.2.2.1 (vp_in_nI (by omega) (by omega)) d_law_522 ?_
  refine vd_callVi (As := [.int (xs (nI (i + 1)).toNatClampNeg), .int (xs (nI (i + 2)).toNatClampNeg)]) (rest := []) CX HW (k_differ l D ad K (xs (nI (i + 1)).toNatClampNeg) (xs (nI (i + 2)).toNatClampNeg)) mo_D_differ wi_D_differ ws_D_differ (vr_30 CX HW) ml_L_80 rfl rfl ⟨Nat.le_of_ble_eq_true rfl, Nat.le_of_ble_eq_true rfl⟩ hl.1 (Nat.le_of_ble_eq_true rfl) d_law_523 ⟨Nat.le_refl _, Nat.le_refl _⟩ (fun r1 K1 H locs p1 HW => ?_)
  refine lv_aload_n hx hb d_law_526 rfl (lv_at hl 2 rfl) ?_
  refine lv_aload_n hx hb d_law_527 rfl (lv_at hl 0 rfl) ?_
  refine lv_iload_n hx hb d_law_528 rfl (lv_at hl 3 rfl) ?_
  refine lv_iconst (v := nI 1) hx hb d_law_529 (by decide) ?_
  refine vd_iadd hx hb d_law_530 ?_
  refine va_sld hx hb hX hbl hbA HW.2.2.1 (vp_in_nI (by omega) (by omega)) d_law_531 ?_
  refine lv_aload_n hx hb d_law_532 rfl (lv_at hl 0 rfl) ?_
  refine lv_iload_n hx hb d_law_533 rfl (lv_at hl 3 rfl) ?_
  refine lv_iconst (v := nI 2) hx hb d_law_534 (by decide) ?_
  refine vd_iadd hx hb d_law_535 ?_
  refine va_sld hx hb hX hbl hbA HW.2.2.1 (vp_in_nI (by omega) (by omega)) d_law_536 ?_
  refine vd_callVi (As := [.int (xs (nI (i + 1)).toNatClampNeg), .int (xs (nI (i + 2)).toNatClampNeg)]) (rest := [.int r1]) CX HW (j_differ l D ad K1 (xs (nI (i + 1)).toNatClampNeg) (xs (nI (i + 2)).toNatClampNeg)) mo_M_differ wi_M_differ ws_M_differ (vr_35 CX HW) ml_L_83 rfl rfl ⟨Nat.le_of_ble_eq_true rfl, Nat.le_of_ble_eq_true rfl⟩ hl.1 (Nat.le_of_ble_eq_true rfl) d_law_537 ⟨Nat.le_refl _, Nat.le_refl _⟩ (fun r2 K2 H locs p2 HW => ?_)
  obtain ⟨e1, f1⟩ := p1
  obtain ⟨e2, f2⟩ := p2
  have E1 : r1 = r2 := by rw [f1, f2, ← e1]; exact op_differ hR (xs (nI (i + 1)).toNatClampNeg) (xs (nI (i + 2)).toNatClampNeg)
  have E2 : vd_Rel K2 := by rw [← e2, ← e1]; exact hR
  have E3 : vd_Iv K2 := by rw [← e2, ← e1]; exact hI
  refine lv_icmp_eq (tgt := 591) hx hb d_law_540 (by decide) (fun _ => ?_) (fun cq => absurd E1 cq)
  exact kk K2 _ _ E2 E3 HW
set_option maxHeartbeats 4000000 in
set_option maxRecDepth 100000 in
theorem law_clashing {p : Program} {l : Launch} {e : Env} {s : State} {m : MethodId} {below : List Frame} {meth : Method} {c : Code} {D : va_G} {ad : Nat → Nat} {b L i : Nat} {xs : Nat → Int32} {Q : State → Prop} {K : KT} {H : Heap} {locs : List Loc} {ls : Array Slot} (hL : L ≤ 1536) (hi : i + 3 ≤ L) (CX : vd_Cx p s m c code 4 #[Value.ref b] R_law D) (HW : vd_WS D ad s K H locs) (hR : vd_Rel K) (hI : vd_Iv K) (hX : va_X b L xs s s.heap) (hbl : b < s.heap.size) (hbA : ¬ vd_Ad ad b) (hl : lv_has ls 4 [(0, .ref b), (1, .ref (ad 30)), (2, .ref (ad 35)), (3, .int (nI i))])
    (kk : ∀ (K' : KT) (H' : Heap) (locs' : List Loc), vd_Rel K' → vd_Iv K' → vd_WS D ad s K' H' locs' → W p l e room_1 s m #[Value.ref b] below meth c H' locs' 600000 7302250 Q (F0 m 591 ls [])) : W p l e room_1 s m #[Value.ref b] below meth c H locs 600000 7302250 Q (F0 m 545 ls []) := by
  have hx := CX.1
  have hb := CX.2.1
  have HB := HW.2.2.2
  refine lv_aload_n hx hb d_law_545 rfl (lv_at hl 1 rfl) ?_
  refine lv_aload_n hx hb d_law_546 rfl (lv_at hl 0 rfl) ?_
  refine lv_iload_n hx hb d_law_547 rfl (lv_at hl 3 rfl) ?_
  refine lv_iconst (v := nI 1) hx hb d_law_548 (by decide) ?_
  refine vd_iadd hx hb d_law_549 ?_
  refine va_sld hx hb hX hbl hbA HW.2.2.1 (vp_in_nI (by omega) (by omega)) d_law_550 ?_
  refine vd_callVi (As := [.int (xs (nI (i + 1)).toNatClampNeg)]) (rest := []) CX HW (k_clashing l D ad K (xs (nI (i + 1)).toNatClampNeg)) mo_D_clashing wi_D_clashing ws_D_clashing (vr_30 CX HW) ml_L_84 rfl rfl ⟨Nat.le_of_ble_eq_true rfl, Nat.le_of_ble_eq_true rfl⟩ hl.1 (Nat.le_of_ble_eq_true rfl) d_law_551 ⟨Nat.le_refl _, Nat.le_refl _⟩ (fun r1 K1 H locs p1 HW => ?_)
  refine lv_aload_n hx hb d_law_554 rfl (lv_at hl 2 rfl) ?_
  refine lv_aload_n hx hb d_law_555 rfl (lv_at hl 0 rfl) ?_
  refine lv_iload_n hx hb d_law_556 rfl (lv_at hl 3 rfl) ?_
  refine lv_iconst (v := nI 1) hx hb d_law_557 (by decide) ?_
  refine vd_iadd hx hb d_law_558 ?_
  refine va_sld hx hb hX hbl hbA HW.2.2.1 (vp_in_nI (by omega) (by omega)) d_law_559 ?_
  refine vd_callVi (As := [.int (xs (nI (i + 1)).toNatClampNeg)]) (rest := [.int r1]) CX HW (j_clashing l D ad K1 (xs (nI (i + 1)).toNatClampNeg)) mo_M_clashing wi_M_clashing ws_M_clashing (vr_35 CX HW) ml_L_88 rfl rfl ⟨Nat.le_of_ble_eq_true rfl, Nat.le_of_ble_eq_true rfl⟩ hl.1 (Nat.le_of_ble_eq_true rfl) d_law_560 ⟨Nat.le_refl _, Nat.le_refl _⟩ (fun r2 K2 H locs p2 HW => ?_)
  obtain ⟨e1, f1⟩ := p1
  obtain ⟨e2, f2⟩ := p2
  have E1 : r1 = r2 := by rw [f1, f2, ← e1, op_clashing hR (xs (nI (i + 1)).toNatClampNeg)]
  have E2 : vd_Rel K2 := by rw [← e2, ← e1]; exact hR
  have E3 : vd_Iv K2 := by rw [← e2, ← e1]; exact hI
  refine lv_icmp_eq (tgt := 591) hx hb d_law_563 (by decide) (fun _ => ?_) (fun cq => absurd E1 cq)
  exact kk K2 _ _ E2 E3 HW
set_option maxHeartbeats 4000000 in
set_option maxRecDepth 100000 in
theorem law_count {p : Program} {l : Launch} {e : Env} {s : State} {m : MethodId} {below : List Frame} {meth : Method} {c : Code} {D : va_G} {ad : Nat → Nat} {b L i : Nat} {xs : Nat → Int32} {Q : State → Prop} {K : KT} {H : Heap} {locs : List Loc} {ls : Array Slot} (hL : L ≤ 1536) (hi : i + 3 ≤ L) (CX : vd_Cx p s m c code 4 #[Value.ref b] R_law D) (HW : vd_WS D ad s K H locs) (hR : vd_Rel K) (hI : vd_Iv K) (hX : va_X b L xs s s.heap) (hbl : b < s.heap.size) (hbA : ¬ vd_Ad ad b) (hl : lv_has ls 4 [(0, .ref b), (1, .ref (ad 30)), (2, .ref (ad 35)), (3, .int (nI i))])
    (kk : ∀ (K' : KT) (H' : Heap) (locs' : List Loc), vd_Rel K' → vd_Iv K' → vd_WS D ad s K' H' locs' → W p l e room_1 s m #[Value.ref b] below meth c H' locs' 600000 7302250 Q (F0 m 591 ls [])) : W p l e room_1 s m #[Value.ref b] below meth c H locs 600000 7302250 Q (F0 m 568 ls []) := by
  have hx := CX.1
  have hb := CX.2.1
  have HB := HW.2.2.2
  refine lv_aload_n hx hb d_law_568 rfl (lv_at hl 1 rfl) ?_
  refine lv_aload_n hx hb d_law_569 rfl (lv_at hl 0 rfl) ?_
  refine lv_iload_n hx hb d_law_570 rfl (lv_at hl 3 rfl) ?_
  refine lv_iconst (v := nI 1) hx hb d_law_571 (by decide) ?_
  refine vd_iadd hx hb d_law_572 ?_
  refine va_sld hx hb hX hbl hbA HW.2.2.1 (vp_in_nI (by omega) (by omega)) d_law_573 ?_
  refine vd_callVi (As := [.int (xs (nI (i + 1)).toNatClampNeg)]) (rest := []) CX HW (k_count l D ad K (xs (nI (i + 1)).toNatClampNeg)) mo_D_count wi_D_count ws_D_count (vr_30 CX HW) ml_L_89 rfl rfl ⟨Nat.le_of_ble_eq_true rfl, Nat.le_of_ble_eq_true rfl⟩ hl.1 (Nat.le_of_ble_eq_true rfl) d_law_574 ⟨Nat.le_refl _, Nat.le_refl _⟩ (fun r1 K1 H locs p1 HW => ?_)
  refine lv_aload_n hx hb d_law_577 rfl (lv_at hl 2 rfl) ?_
  refine lv_aload_n hx hb d_law_578 rfl (lv_at hl 0 rfl) ?_
  refine lv_iload_n hx hb d_law_579 rfl (lv_at hl 3 rfl) ?_
  refine lv_iconst (v := nI 1) hx hb d_law_580 (by decide) ?_
  refine vd_iadd hx hb d_law_581 ?_
  refine va_sld hx hb hX hbl hbA HW.2.2.1 (vp_in_nI (by omega) (by omega)) d_law_582 ?_
  refine vd_callVi (As := [.int (xs (nI (i + 1)).toNatClampNeg)]) (rest := [.int r1]) CX HW (j_count l D ad K1 (xs (nI (i + 1)).toNatClampNeg)) mo_M_count wi_M_count ws_M_count (vr_35 CX HW) ml_L_92 rfl rfl ⟨Nat.le_of_ble_eq_true rfl, Nat.le_of_ble_eq_true rfl⟩ hl.1 (Nat.le_of_ble_eq_true rfl) d_law_583 ⟨Nat.le_refl _, Nat.le_refl _⟩ (fun r2 K2 H locs p2 HW => ?_)
  obtain ⟨e1, f1⟩ := p1
  obtain ⟨e2, f2⟩ := p2
  have E1 : r1 = r2 := by rw [f1, f2, ← e1]; exact op_count hR HB (xs (nI (i + 1)).toNatClampNeg)
  have E2 : vd_Rel K2 := by rw [← e2, ← e1]; exact hR
  have E3 : vd_Iv K2 := by rw [← e2, ← e1]; exact hI
  refine lv_icmp_eq (tgt := 591) hx hb d_law_586 (by decide) (fun _ => ?_) (fun cq => absurd E1 cq)
  exact kk K2 _ _ E2 E3 HW
