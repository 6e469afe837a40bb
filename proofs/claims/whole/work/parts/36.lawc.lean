set_option maxHeartbeats 4000000 in
set_option maxRecDepth 100000 in
theorem law_loop {p : Program} {l : Launch} {e : Env} {s : State} {m : MethodId} {below : List Frame} {meth : Method} {c : Code} {D : va_G} {ad : Nat → Nat} {b L : Nat} {xs : Nat → Int32} (hL : L ≤ 1536) (C0 : lw_At p s m meth c b L xs) (hK : va_K D vwCl (vd_tys D) s) (hAd : ∀ q, vd_Ad ad q → s.heap.size ≤ q) :
    ∀ (n i : Nat), i ≤ L + 3 → L + 4 ≤ i + n → ∀ (K : KT) (H : Heap) (locs : List Loc), vd_WS D ad s K H locs → vd_Rel K → vd_Iv K → ∀ (ls : Array Slot), lv_has ls 4 [(0, .ref b), (1, .ref (ad 30)), (2, .ref (ad 35)), (3, .int (nI i))] → W p l e room_1 s m #[Value.ref b] below meth c H locs 600000 7302250 (lw_Z below #[Value.ref b] s) (F0 m 18 ls []) := by
  obtain ⟨hx, hb, hr, hml, hown, hts, hX, hbl, hlocks, hgv⟩ := C0
  have CX : vd_Cx p s m c code 4 #[Value.ref b] R_law D := ⟨hx, hb, hml, hown, fun w hw => hts w (List.mem_filter.mp hw).1, hK⟩
  have hbA : ¬ vd_Ad ad b := fun z => absurd (hAd b z) (Nat.not_le.mpr hbl)
  intro n
  induction n with
  | zero =>
    intro i h1 h2
    exact absurd h2 (by omega)
  | succ n ih =>
    intro i hi hin K H locs HW hR hI ls hl
    refine lv_iload_n hx hb d_law_18 rfl (lv_at hl 3 rfl) ?_
    refine lv_aload_n hx hb d_law_19 rfl (lv_at hl 0 rfl) ?_
    refine va_slen hx hb hX hbl hbA HW.2.2.1 d_law_20 ?_
    refine lv_iconst (v := nI 3) hx hb d_law_21 (by decide) ?_
    refine lv_isub hx hb d_law_22 ?_
    have tI : (nI L - nI 3).toInt = (L : Int) - 3 := pk_sub_toInt (by omega) (by decide)
    have tJ : (nI i).toInt = (i : Int) := nI_toInt (by omega)
    refine lv_icmp_gt (tgt := 597) hx hb d_law_23 (by decide) (fun _ => ?_) (fun cq => ?_)
    · refine lv_iconst (v := 1) hx hb d_law_597 (by decide) ?_
      refine va_forget (fun q hq => hAd _ (HW.2.2.1.2.2 q hq)) ?_
      exact lw_ret hx hb hr hlocks d_law_598
    · have hlt : i + 3 ≤ L := by
        have z : ¬ ((L : Int) - 3 < (i : Int)) := fun z => cq (Int32.lt_iff_toInt_lt.mpr (by
          show (nI L - nI 3).toInt < (nI i).toInt
          rw [tI, tJ]
          exact z))
        omega
      have kk : ∀ (K' : KT) (H' : Heap) (locs' : List Loc), vd_Rel K' → vd_Iv K' → vd_WS D ad s K' H' locs' → W p l e room_1 s m #[Value.ref b] below meth c H' locs' 600000 7302250 (lw_Z below #[Value.ref b] s) (F0 m 591 ls []) := fun K' H' locs' R' I' W' => by
        refine lv_iinc (v := nI (i + 3)) (lv' := [(3, .int (nI (i + 3))), (0, .ref b), (1, .ref (ad 30)), (2, .ref (ad 35))]) hx hb d_law_591 hl (k := 3) rfl (vd_inc i 3) (by decide) rfl (fun ls hl => ?_)
        refine lv_goto (tgt := 18) hx hb d_law_594 (by decide) ?_
        exact ih (i + 3) (by omega) (by omega) K' H' locs' W' R' I' ls (lv_sub hl [1, 2, 3, 0] rfl)
      refine lv_aload_n hx hb d_law_26 rfl (lv_at hl 0 rfl) ?_
      refine lv_iload_n hx hb d_law_27 rfl (lv_at hl 3 rfl) ?_
      refine va_sld hx hb hX hbl hbA HW.2.2.1 (vp_in_nI (by omega) (by omega)) d_law_28 ?_
      refine lv_bipush (v := nI 31) hx hb d_law_29 (by decide) ?_
      refine lv_iand hx hb d_law_31 ?_
      refine lv_topi (fun v ev => ?_)
      rcases vd_sw19 v with h_sw | ⟨k, hk, rfl⟩
      · refine lv_tableOut (tgt := 591) hx hb d_law_32 h_sw (by decide) ?_
        exact kk K H locs hR hI HW
      · rcases (show k = 0 ∨ k = 1 ∨ k = 2 ∨ k = 3 ∨ k = 4 ∨ k = 5 ∨ k = 6 ∨ k = 7 ∨ k = 8 ∨ k = 9 ∨ k = 10 ∨ k = 11 ∨ k = 12 ∨ k = 13 ∨ k = 14 ∨ k = 15 ∨ k = 16 ∨ k = 17 ∨ k = 18 by omega) with rfl | rfl | rfl | rfl | rfl | rfl | rfl | rfl | rfl | rfl | rfl | rfl | rfl | rfl | rfl | rfl | rfl | rfl | rfl
        · refine lv_tableIn (off := 92) (tgt := 124) hx hb d_law_32 (by decide) (by decide) rfl (by decide) ?_
          exact law_write hL hlt CX HW hR hI hX hbl hbA hl kk
        · refine lv_tableIn (off := 125) (tgt := 157) hx hb d_law_32 (by decide) (by decide) rfl (by decide) ?_
          exact law_stage hL hlt CX HW hR hI hX hbl hbA hl kk
        · refine lv_tableIn (off := 148) (tgt := 180) hx hb d_law_32 (by decide) (by decide) rfl (by decide) ?_
          exact law_commit hL hlt CX HW hR hI hX hbl hbA hl kk
        · refine lv_tableIn (off := 161) (tgt := 193) hx hb d_law_32 (by decide) (by decide) rfl (by decide) ?_
          exact law_branch hL hlt CX HW hR hI hX hbl hbA hl kk
        · refine lv_tableIn (off := 184) (tgt := 216) hx hb d_law_32 (by decide) (by decide) rfl (by decide) ?_
          exact law_turn hL hlt CX HW hR hI hX hbl hbA hl kk
        · refine lv_tableIn (off := 207) (tgt := 239) hx hb d_law_32 (by decide) (by decide) rfl (by decide) ?_
          exact law_merge hL hlt CX HW hR hI hX hbl hbA hl kk
        · refine lv_tableIn (off := 230) (tgt := 262) hx hb d_law_32 (by decide) (by decide) rfl (by decide) ?_
          exact law_abort hL hlt CX HW hR hI hX hbl hbA hl kk
        · refine lv_tableIn (off := 243) (tgt := 275) hx hb d_law_32 (by decide) (by decide) rfl (by decide) ?_
          exact law_pick hL hlt CX HW hR hI hX hbl hbA hl kk
        · refine lv_tableIn (off := 266) (tgt := 298) hx hb d_law_32 (by decide) (by decide) rfl (by decide) ?_
          exact law_reset hL hlt CX HW hR hI hX hbl hbA hl kk
        · refine lv_tableIn (off := 289) (tgt := 321) hx hb d_law_32 (by decide) (by decide) rfl (by decide) ?_
          exact law_remove hL hlt CX HW hR hI hX hbl hbA hl kk
        · refine lv_tableIn (off := 312) (tgt := 344) hx hb d_law_32 (by decide) (by decide) rfl (by decide) ?_
          exact law_sweep hL hlt CX HW hR hI hX hbl hbA hl kk
        · refine lv_tableIn (off := 325) (tgt := 357) hx hb d_law_32 (by decide) (by decide) rfl (by decide) ?_
          exact law_content hL hlt CX HW hR hI hX hbl hbA hl kk
        · refine lv_tableIn (off := 358) (tgt := 390) hx hb d_law_32 (by decide) (by decide) rfl (by decide) ?_
          exact law_at hL hlt CX HW hR hI hX hbl hbA hl kk
        · refine lv_tableIn (off := 391) (tgt := 423) hx hb d_law_32 (by decide) (by decide) rfl (by decide) ?_
          exact law_parent hL hlt CX HW hR hI hX hbl hbA hl kk
        · refine lv_tableIn (off := 424) (tgt := 456) hx hb d_law_32 (by decide) (by decide) rfl (by decide) ?_
          exact law_branchAt hL hlt CX HW hR hI hX hbl hbA hl kk
        · refine lv_tableIn (off := 447) (tgt := 479) hx hb d_law_32 (by decide) (by decide) rfl (by decide) ?_
          exact law_common hL hlt CX HW hR hI hX hbl hbA hl kk
        · refine lv_tableIn (off := 480) (tgt := 512) hx hb d_law_32 (by decide) (by decide) rfl (by decide) ?_
          exact law_differ hL hlt CX HW hR hI hX hbl hbA hl kk
        · refine lv_tableIn (off := 513) (tgt := 545) hx hb d_law_32 (by decide) (by decide) rfl (by decide) ?_
          exact law_clashing hL hlt CX HW hR hI hX hbl hbA hl kk
        · refine lv_tableIn (off := 536) (tgt := 568) hx hb d_law_32 (by decide) (by decide) rfl (by decide) ?_
          exact law_count hL hlt CX HW hR hI hX hbl hbA hl kk
