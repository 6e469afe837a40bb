/-! out of kit/laws/BITS.to-paste: longs as numbers -/
theorem wb_tb (n : Nat) : (lN n).toBitVec = BitVec.ofNat 64 n := rfl
theorem wb_inj {a b : Int64} (h : a.toBitVec = b.toBitVec) : a = b := Int64.toBitVec_inj.mp h
theorem wb_tn {n : Nat} (h : n < 2 ^ 64) : (lN n).toBitVec.toNat = n := by rw [wb_tb, BitVec.toNat_ofNat, Nat.mod_eq_of_lt h]
theorem wb_of (x : Int64) : ∃ n, n < 2 ^ 64 ∧ x = lN n := ⟨x.toBitVec.toNat, x.toBitVec.isLt, wb_inj (by rw [wb_tb]; simp)⟩
theorem wb_of32 (x : Int32) : ∃ n, n < 2 ^ 32 ∧ x = nI n := ⟨x.toBitVec.toNat, x.toBitVec.isLt, Int32.toBitVec_inj.mp (by show _ = BitVec.ofNat 32 _; simp)⟩
theorem wb_c : ∀ k, k < 64 → ((nI k).toInt64 &&& 63) = lN k := by decide +kernel
theorem wb_cu : ∀ k, k < 64 → ((nI k).toInt64.toUInt64 &&& Int64.toUInt64 63) = UInt64.ofNat k := by decide +kernel
theorem wb_sm : ∀ k, k < 64 → (BitVec.ofNat 64 k).smod 64 = BitVec.ofNat 64 k := by decide +kernel
theorem wb_pw {a b : Nat} (h : a ≤ b) : 2 ^ b = 2 ^ a * 2 ^ (b - a) := by rw [← Nat.pow_add]; congr 1; omega
theorem wb_lt2 {a b : Nat} (h : a < b) : 2 ^ a < 2 ^ b := Nat.pow_lt_pow_right (by decide) h
theorem wb_mod (n : Nat) : lN n = lN (n % 2 ^ 64) := wb_inj (by rw [wb_tb, wb_tb]; apply BitVec.eq_of_toNat_eq; rw [BitVec.toNat_ofNat, BitVec.toNat_ofNat, Nat.mod_mod])
theorem wb_shr {n k : Nat} (hn : n < 2 ^ 64) (hk : k < 64) : ((lN n).toUInt64 >>> ((nI k).toInt64.toUInt64 &&& Int64.toUInt64 63)).toInt64 = lN (n / 2 ^ k) := by
  rw [wb_cu k hk]
  apply wb_inj
  apply BitVec.eq_of_toNat_eq
  show ((lN n).toUInt64 >>> UInt64.ofNat k).toNat = (BitVec.ofNat 64 _).toNat
  have h1 : (UInt64.ofNat k).toNat = k := by
    show (BitVec.ofNat 64 k).toNat = k
    rw [BitVec.toNat_ofNat, Nat.mod_eq_of_lt (by omega)]
  have h2 : (lN n).toUInt64.toNat = n := wb_tn hn
  rw [UInt64.toNat_shiftRight, h1, h2, Nat.mod_eq_of_lt hk, Nat.shiftRight_eq_div_pow, BitVec.toNat_ofNat, Nat.mod_eq_of_lt (Nat.lt_of_le_of_lt (Nat.div_le_self _ _) hn)]
theorem wb_shl (n : Nat) {k : Nat} (hk : k < 64) : lN n <<< ((nI k).toInt64 &&& 63) = lN (n * 2 ^ k) := by
  rw [wb_c k hk]
  apply wb_inj
  rw [Int64.toBitVec_shiftLeft, wb_tb, wb_tb, wb_tb, wb_sm k hk]
  apply BitVec.eq_of_toNat_eq
  rw [BitVec.shiftLeft_eq', BitVec.toNat_shiftLeft, BitVec.toNat_ofNat, BitVec.toNat_ofNat, BitVec.toNat_ofNat, Nat.mod_eq_of_lt (show k < 2 ^ 64 by omega), Nat.shiftLeft_eq, Nat.mul_mod, Nat.mod_mod, ← Nat.mul_mod]
theorem wb_and {a b : Nat} (ha : a < 2 ^ 64) (hb : b < 2 ^ 64) : lN a &&& lN b = lN (a &&& b) := by
  apply wb_inj
  rw [Int64.toBitVec_and, wb_tb, wb_tb, wb_tb]
  apply BitVec.eq_of_toNat_eq
  rw [BitVec.toNat_and, BitVec.toNat_ofNat, BitVec.toNat_ofNat, BitVec.toNat_ofNat, Nat.mod_eq_of_lt ha, Nat.mod_eq_of_lt hb, Nat.mod_eq_of_lt (Nat.and_lt_two_pow _ hb)]
section VDP
variable {p : Program} {l : Launch} {e : Env} {R : Room} {s : State} {m : MethodId} {args : Array Value} {below : List Frame} {meth : Method} {c : Code} {H : Heap} {locs : List Loc} {Q : State → Prop}
variable {cells slots : Nat} {cc : ByteArray} {pc nL : Nat} {ls : Array Slot} {rest : List Value} {own : String} {D : va_G} {ad : Nat → Nat} {K : KT}
theorem vd_us31 : ∀ k, k < 32 → ((((nI k).toUInt32) &&& Int32.toUInt32 31).toBitVec % 32).toNat = k := by decide +kernel
theorem vd_iushr (hx : p.tables.exec = Jvm.exec) (hb : c.code = cc) {x k q : Nat} (h1 : x < 2 ^ 32) (h2 : k < 32) (hq : 2 ^ k = q) (hdg : decode cc pc = .ok (.iushr, 1)) (kk : W p l e R s m args below meth c H locs cells slots Q (F0 m (pc + 1) ls (.int (nI (x / q)) :: rest))) : W p l e R s m args below meth c H locs cells slots Q (F0 m pc ls (.int (nI k) :: .int (nI x) :: rest)) := by
  subst hq
  exact lv_iushr hx hb hdg (pk_ushrN h1 (nI k) k (vd_us31 k h2)) kk
theorem vd_lushr (hx : p.tables.exec = Jvm.exec) (hb : c.code = cc) {x k q : Nat} (h1 : x < 2 ^ 64) (h2 : k < 64) (hq : 2 ^ k = q) (hdg : decode cc pc = .ok (.lushr, 1)) (kk : W p l e R s m args below meth c H locs cells slots Q (F0 m (pc + 1) ls (.long (lN (x / q)) :: rest))) : W p l e R s m args below meth c H locs cells slots Q (F0 m pc ls (.int (nI k) :: .long (lN x) :: rest)) := by
  subst hq
  exact lv_lushr hx hb hdg (wb_shr h1 h2) kk
theorem vd_land64 (hx : p.tables.exec = Jvm.exec) (hb : c.code = cc) {x y : Nat} (h1 : x < 2 ^ 64) (h2 : y < 2 ^ 64) (hdg : decode cc pc = .ok (.land, 1)) (kk : W p l e R s m args below meth c H locs cells slots Q (F0 m (pc + 1) ls (.long (lN (x &&& y)) :: rest))) : W p l e R s m args below meth c H locs cells slots Q (F0 m pc ls (.long (lN y) :: .long (lN x) :: rest)) := lv_land hx hb hdg (by rw [wb_and h1 h2]; exact kk)
theorem vd_ladd (hx : p.tables.exec = Jvm.exec) (hb : c.code = cc) {x y : Nat} (hdg : decode cc pc = .ok (.ladd, 1)) (kk : W p l e R s m args below meth c H locs cells slots Q (F0 m (pc + 1) ls (.long (lN (x + y)) :: rest))) : W p l e R s m args below meth c H locs cells slots Q (F0 m pc ls (.long (lN y) :: .long (lN x) :: rest)) := lv_ladd hx hb hdg (by rw [lN_add]; exact kk)
theorem vd_lsub (hx : p.tables.exec = Jvm.exec) (hb : c.code = cc) {x y : Nat} (h : y ≤ x) (hdg : decode cc pc = .ok (.lsub, 1)) (kk : W p l e R s m args below meth c H locs cells slots Q (F0 m (pc + 1) ls (.long (lN (x - y)) :: rest))) : W p l e R s m args below meth c H locs cells slots Q (F0 m pc ls (.long (lN y) :: .long (lN x) :: rest)) := lv_lsub hx hb hdg (by rw [lN_sub h]; exact kk)
theorem vd_l2i (hx : p.tables.exec = Jvm.exec) (hb : c.code = cc) {x : Nat} (hdg : decode cc pc = .ok (.l2i, 1)) (kk : W p l e R s m args below meth c H locs cells slots Q (F0 m (pc + 1) ls (.int (nI x) :: rest))) : W p l e R s m args below meth c H locs cells slots Q (F0 m pc ls (.long (lN x) :: rest)) := lv_l2i hx hb hdg (lN_i x) kk
theorem vd_ldcw (CX : vd_Cx p s m c cc nL args own D) {idx v : Nat} (hc : Cond.constant own idx (nI v) ∈ vd_tbl) (hdg : decode cc pc = .ok (.ldc_w idx, 3)) (kk : W p l e R s m args below meth c H locs cells slots Q (F0 m (pc + 3) ls (.int (nI v) :: rest))) : W p l e R s m args below meth c H locs cells slots Q (F0 m pc ls rest) := lv_ldcw CX.1 CX.2.1 CX.2.2.2.1 (CX.2.2.2.2.1 _ hc) hdg kk
theorem vd_ldc2w (CX : vd_Cx p s m c cc nL args own D) {idx v : Nat} (hc : Cond.constantLong own idx (lN v) ∈ vd_tbl) (hdg : decode cc pc = .ok (.ldc2_w idx, 3)) (kk : W p l e R s m args below meth c H locs cells slots Q (F0 m (pc + 3) ls (.long (lN v) :: rest))) : W p l e R s m args below meth c H locs cells slots Q (F0 m pc ls rest) := lv_ldc2 CX.1 CX.2.1 CX.2.2.2.1 (CX.2.2.2.2.1 _ hc) hdg kk
end VDP
set_option maxHeartbeats 1000000 in
set_option maxRecDepth 100000 in
theorem k_ibc (l : Launch) (D : va_G) (ad : Nat → Nat) (K : KT) (x : Nat) (hx31 : x < 2 ^ 31) : vd_MI l y_I_bitCount c_I_bitCount 1 (some .int) 0 0 D ad [.int (nI x)] K (fun (ans : Int32) (K' : KT) => K = K' ∧ ans = (nI (vd_pc 32 x)) ∧ vd_pc 32 x ≤ 32) := by
  refine vd_entI (by decide) (Nat.le_of_ble_eq_true rfl) (lv := [(0, .int (nI x))]) rfl ?_
  intro p e s m args below meth cd ls Q CX hl H locs HW RET
  have hx := CX.1
  have hb := CX.2.1
  obtain ⟨s1, e1⟩ : ∃ s, s = x - ((x / 2) &&& 1431655765) := ⟨_, rfl⟩
  obtain ⟨s2, e2⟩ : ∃ s, s = (s1 &&& 858993459) + ((s1 / 4) &&& 858993459) := ⟨_, rfl⟩
  obtain ⟨s3, e3⟩ : ∃ s, s = (s2 + s2 / 16) &&& 252645135 := ⟨_, rfl⟩
  obtain ⟨s4, e4⟩ : ∃ s, s = s3 + s3 / 256 := ⟨_, rfl⟩
  obtain ⟨s5, e5⟩ : ∃ s, s = s4 + s4 / 65536 := ⟨_, rfl⟩
  obtain ⟨p1, p2, p3, p4⟩ := vd_pop32 (x := x) (by omega) e1 e2 e3 e4 e5
  refine lv_iload_n hx hb d_I_bitCount_0 rfl (lv_at hl 0 rfl) ?_
  refine lv_iload_n hx hb d_I_bitCount_1 rfl (lv_at hl 0 rfl) ?_
  refine lv_iconst (v := (nI 1)) hx hb d_I_bitCount_2 (by decide) ?_
  refine vd_iushr hx hb (x := x) (k := 1) (q := 2) (by omega) (by decide) (by decide) d_I_bitCount_3 ?_
  refine vd_ldcw CX (v := 1431655765) kc_I_265 d_I_bitCount_4 ?_
  refine vd_iand hx hb d_I_bitCount_7 ?_
  refine vd_isub hx hb (by omega) d_I_bitCount_8 ?_
  rw [← e1]
  refine lv_istore_n (lv' := [(0, .int (nI s1))]) hx hb d_I_bitCount_9 rfl hl (by decide) rfl (fun ls hl => ?_)
  refine lv_iload_n hx hb d_I_bitCount_10 rfl (lv_at hl 0 rfl) ?_
  refine vd_ldcw CX (v := 858993459) kc_I_266 d_I_bitCount_11 ?_
  refine vd_iand hx hb d_I_bitCount_14 ?_
  refine lv_iload_n hx hb d_I_bitCount_15 rfl (lv_at hl 0 rfl) ?_
  refine lv_iconst (v := (nI 2)) hx hb d_I_bitCount_16 (by decide) ?_
  refine vd_iushr hx hb (x := s1) (k := 2) (q := 4) (by omega) (by decide) (by decide) d_I_bitCount_17 ?_
  refine vd_ldcw CX (v := 858993459) kc_I_266 d_I_bitCount_18 ?_
  refine vd_iand hx hb d_I_bitCount_21 ?_
  refine vd_iadd hx hb d_I_bitCount_22 ?_
  rw [← e2]
  refine lv_istore_n (lv' := [(0, .int (nI s2))]) hx hb d_I_bitCount_23 rfl hl (by decide) rfl (fun ls hl => ?_)
  refine lv_iload_n hx hb d_I_bitCount_24 rfl (lv_at hl 0 rfl) ?_
  refine lv_iload_n hx hb d_I_bitCount_25 rfl (lv_at hl 0 rfl) ?_
  refine lv_iconst (v := (nI 4)) hx hb d_I_bitCount_26 (by decide) ?_
  refine vd_iushr hx hb (x := s2) (k := 4) (q := 16) (by omega) (by decide) (by decide) d_I_bitCount_27 ?_
  refine vd_iadd hx hb d_I_bitCount_28 ?_
  refine vd_ldcw CX (v := 252645135) kc_I_267 d_I_bitCount_29 ?_
  refine vd_iand hx hb d_I_bitCount_32 ?_
  rw [← e3]
  refine lv_istore_n (lv' := [(0, .int (nI s3))]) hx hb d_I_bitCount_33 rfl hl (by decide) rfl (fun ls hl => ?_)
  refine lv_iload_n hx hb d_I_bitCount_34 rfl (lv_at hl 0 rfl) ?_
  refine lv_iload_n hx hb d_I_bitCount_35 rfl (lv_at hl 0 rfl) ?_
  refine lv_bipush (v := (nI 8)) hx hb d_I_bitCount_36 (by decide) ?_
  refine vd_iushr hx hb (x := s3) (k := 8) (q := 256) (by omega) (by decide) (by decide) d_I_bitCount_38 ?_
  refine vd_iadd hx hb d_I_bitCount_39 ?_
  rw [← e4]
  refine lv_istore_n (lv' := [(0, .int (nI s4))]) hx hb d_I_bitCount_40 rfl hl (by decide) rfl (fun ls hl => ?_)
  refine lv_iload_n hx hb d_I_bitCount_41 rfl (lv_at hl 0 rfl) ?_
  refine lv_iload_n hx hb d_I_bitCount_42 rfl (lv_at hl 0 rfl) ?_
  refine lv_bipush (v := (nI 16)) hx hb d_I_bitCount_43 (by decide) ?_
  refine vd_iushr hx hb (x := s4) (k := 16) (q := 65536) (by omega) (by decide) (by decide) d_I_bitCount_45 ?_
  refine vd_iadd hx hb d_I_bitCount_46 ?_
  rw [← e5]
  refine lv_istore_n (lv' := [(0, .int (nI s5))]) hx hb d_I_bitCount_47 rfl hl (by decide) rfl (fun ls hl => ?_)
  refine lv_iload_n hx hb d_I_bitCount_48 rfl (lv_at hl 0 rfl) ?_
  refine lv_bipush (v := (nI 63)) hx hb d_I_bitCount_49 (by decide) ?_
  refine vd_iand hx hb d_I_bitCount_51 ?_
  exact RET _ _ _ _ _ _ d_I_bitCount_52 (by (refine ⟨rfl, ?_, vd_cn_le _ _⟩; (· rw [p4]))) HW
set_option maxHeartbeats 1000000 in
set_option maxRecDepth 100000 in
theorem k_lbc (l : Launch) (D : va_G) (ad : Nat → Nat) (K : KT) (x : Nat) (hx64 : x < 2 ^ 64) : vd_MI l y_J_bitCount c_J_bitCount 2 (some .int) 0 0 D ad [.long (lN x)] K (fun (ans : Int32) (K' : KT) => K = K' ∧ ans = (nI (vd_pc 64 x)) ∧ vd_pc 64 x ≤ 64) := by
  refine vd_entI (by decide) (Nat.le_of_ble_eq_true rfl) (lv := [(0, .long (lN x))]) rfl ?_
  intro p e s m args below meth cd ls Q CX hl H locs HW RET
  have hx := CX.1
  have hb := CX.2.1
  obtain ⟨s1, e1⟩ : ∃ s, s = x - ((x / 2) &&& 6148914691236517205) := ⟨_, rfl⟩
  obtain ⟨s2, e2⟩ : ∃ s, s = (s1 &&& 3689348814741910323) + ((s1 / 4) &&& 3689348814741910323) := ⟨_, rfl⟩
  obtain ⟨s3, e3⟩ : ∃ s, s = (s2 + s2 / 16) &&& 1085102592571150095 := ⟨_, rfl⟩
  obtain ⟨s4, e4⟩ : ∃ s, s = s3 + s3 / 256 := ⟨_, rfl⟩
  obtain ⟨s5, e5⟩ : ∃ s, s = s4 + s4 / 65536 := ⟨_, rfl⟩
  obtain ⟨s6, e6⟩ : ∃ s, s = s5 + s5 / 4294967296 := ⟨_, rfl⟩
  obtain ⟨p1, p2, p3, p4⟩ := vd_pop64 (x := x) hx64 e1 e2 e3 e4 e5 e6
  refine lv_lload_n hx hb d_J_bitCount_0 rfl (lv_at hl 0 rfl) ?_
  refine lv_lload_n hx hb d_J_bitCount_1 rfl (lv_at hl 0 rfl) ?_
  refine lv_iconst (v := (nI 1)) hx hb d_J_bitCount_2 (by decide) ?_
  refine vd_lushr hx hb (x := x) (k := 1) (q := 2) (by omega) (by decide) (by decide) d_J_bitCount_3 ?_
  refine vd_ldc2w CX (v := 6148914691236517205) kc_J_314 d_J_bitCount_4 ?_
  refine vd_land64 hx hb (by omega) (by omega) d_J_bitCount_7 ?_
  refine vd_lsub hx hb p1 d_J_bitCount_8 ?_
  rw [← e1]
  refine lv_lstore_n (lv' := [(0, .long (lN s1))]) hx hb d_J_bitCount_9 rfl hl (by decide) rfl (fun ls hl => ?_)
  refine lv_lload_n hx hb d_J_bitCount_10 rfl (lv_at hl 0 rfl) ?_
  refine vd_ldc2w CX (v := 3689348814741910323) kc_J_316 d_J_bitCount_11 ?_
  refine vd_land64 hx hb (by omega) (by omega) d_J_bitCount_14 ?_
  refine lv_lload_n hx hb d_J_bitCount_15 rfl (lv_at hl 0 rfl) ?_
  refine lv_iconst (v := (nI 2)) hx hb d_J_bitCount_16 (by decide) ?_
  refine vd_lushr hx hb (x := s1) (k := 2) (q := 4) (by omega) (by decide) (by decide) d_J_bitCount_17 ?_
  refine vd_ldc2w CX (v := 3689348814741910323) kc_J_316 d_J_bitCount_18 ?_
  refine vd_land64 hx hb (by omega) (by omega) d_J_bitCount_21 ?_
  refine vd_ladd hx hb d_J_bitCount_22 ?_
  rw [← e2]
  refine lv_lstore_n (lv' := [(0, .long (lN s2))]) hx hb d_J_bitCount_23 rfl hl (by decide) rfl (fun ls hl => ?_)
  refine lv_lload_n hx hb d_J_bitCount_24 rfl (lv_at hl 0 rfl) ?_
  refine lv_lload_n hx hb d_J_bitCount_25 rfl (lv_at hl 0 rfl) ?_
  refine lv_iconst (v := (nI 4)) hx hb d_J_bitCount_26 (by decide) ?_
  refine vd_lushr hx hb (x := s2) (k := 4) (q := 16) (by omega) (by decide) (by decide) d_J_bitCount_27 ?_
  refine vd_ladd hx hb d_J_bitCount_28 ?_
  refine vd_ldc2w CX (v := 1085102592571150095) kc_J_318 d_J_bitCount_29 ?_
  refine vd_land64 hx hb (by omega) (by omega) d_J_bitCount_32 ?_
  rw [← e3]
  refine lv_lstore_n (lv' := [(0, .long (lN s3))]) hx hb d_J_bitCount_33 rfl hl (by decide) rfl (fun ls hl => ?_)
  refine lv_lload_n hx hb d_J_bitCount_34 rfl (lv_at hl 0 rfl) ?_
  refine lv_lload_n hx hb d_J_bitCount_35 rfl (lv_at hl 0 rfl) ?_
  refine lv_bipush (v := (nI 8)) hx hb d_J_bitCount_36 (by decide) ?_
  refine vd_lushr hx hb (x := s3) (k := 8) (q := 256) (by omega) (by decide) (by decide) d_J_bitCount_38 ?_
  refine vd_ladd hx hb d_J_bitCount_39 ?_
  rw [← e4]
  refine lv_lstore_n (lv' := [(0, .long (lN s4))]) hx hb d_J_bitCount_40 rfl hl (by decide) rfl (fun ls hl => ?_)
  refine lv_lload_n hx hb d_J_bitCount_41 rfl (lv_at hl 0 rfl) ?_
  refine lv_lload_n hx hb d_J_bitCount_42 rfl (lv_at hl 0 rfl) ?_
  refine lv_bipush (v := (nI 16)) hx hb d_J_bitCount_43 (by decide) ?_
  refine vd_lushr hx hb (x := s4) (k := 16) (q := 65536) (by omega) (by decide) (by decide) d_J_bitCount_45 ?_
  refine vd_ladd hx hb d_J_bitCount_46 ?_
  rw [← e5]
  refine lv_lstore_n (lv' := [(0, .long (lN s5))]) hx hb d_J_bitCount_47 rfl hl (by decide) rfl (fun ls hl => ?_)
  refine lv_lload_n hx hb d_J_bitCount_48 rfl (lv_at hl 0 rfl) ?_
  refine lv_lload_n hx hb d_J_bitCount_49 rfl (lv_at hl 0 rfl) ?_
  refine lv_bipush (v := (nI 32)) hx hb d_J_bitCount_50 (by decide) ?_
  refine vd_lushr hx hb (x := s5) (k := 32) (q := 4294967296) (by omega) (by decide) (by decide) d_J_bitCount_52 ?_
  refine vd_ladd hx hb d_J_bitCount_53 ?_
  rw [← e6]
  refine lv_lstore_n (lv' := [(0, .long (lN s6))]) hx hb d_J_bitCount_54 rfl hl (by decide) rfl (fun ls hl => ?_)
  refine lv_lload_n hx hb d_J_bitCount_55 rfl (lv_at hl 0 rfl) ?_
  refine vd_l2i hx hb d_J_bitCount_56 ?_
  refine lv_bipush (v := (nI 127)) hx hb d_J_bitCount_57 (by decide) ?_
  refine vd_iand hx hb d_J_bitCount_59 ?_
  exact RET _ _ _ _ _ _ d_J_bitCount_60 (by (refine ⟨rfl, ?_, vd_cn_le _ _⟩; (· rw [show (127 : Nat) = 2 ^ 7 - 1 from rfl, Nat.and_two_pow_sub_one_eq_mod]; exact congrArg nI p4))) HW
