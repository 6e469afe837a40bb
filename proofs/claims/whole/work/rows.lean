section
-- ===== PART A: goes FIRST, ahead of the names: the tables' words, and 'selects' of the private methods out of them =====
/-- a private method of a class that the tables say can be made, by its rows of tables_1 -/
def lw_okq (q : MethodName × Nat) : Prop := (q.1.cls ≠ "java/lang/invoke/MethodHandle" ∧ q.1.cls ≠ "java/lang/invoke/VarHandle") ∧ Cond.instantiable q.1.cls q.2 ∈ tables_1 ∧ Cond.privateMethod q.1 ∈ tables_1 ∧ Cond.instanceMethod q.1 ∈ tables_1
theorem lw_p0 : lw_okq (⟨"VersionDepot", "isAsHere", "([I)Z"⟩, 8) := ⟨⟨by decide +kernel, by decide +kernel⟩, List.mem_of_getElem? (i := 10) (by decide +kernel), List.mem_of_getElem? (i := 132) (by decide +kernel), List.mem_of_getElem? (i := 133) (by decide +kernel)⟩
theorem lw_p1 : lw_okq (⟨"VersionDepot", "here", "()I"⟩, 8) := ⟨⟨by decide +kernel, by decide +kernel⟩, List.mem_of_getElem? (i := 10) (by decide +kernel), List.mem_of_getElem? (i := 136) (by decide +kernel), List.mem_of_getElem? (i := 137) (by decide +kernel)⟩
theorem lw_p2 : lw_okq (⟨"VersionDepot", "isThere", "(I)Z"⟩, 8) := ⟨⟨by decide +kernel, by decide +kernel⟩, List.mem_of_getElem? (i := 10) (by decide +kernel), List.mem_of_getElem? (i := 187) (by decide +kernel), List.mem_of_getElem? (i := 188) (by decide +kernel)⟩
theorem lw_p3 : lw_okq (⟨"VersionDepot", "isTidy", "()Z"⟩, 8) := ⟨⟨by decide +kernel, by decide +kernel⟩, List.mem_of_getElem? (i := 10) (by decide +kernel), List.mem_of_getElem? (i := 191) (by decide +kernel), List.mem_of_getElem? (i := 192) (by decide +kernel)⟩
theorem lw_p4 : lw_okq (⟨"VersionDepot", "unstaged", "()I"⟩, 8) := ⟨⟨by decide +kernel, by decide +kernel⟩, List.mem_of_getElem? (i := 10) (by decide +kernel), List.mem_of_getElem? (i := 195) (by decide +kernel), List.mem_of_getElem? (i := 196) (by decide +kernel)⟩
theorem lw_p5 : lw_okq (⟨"VersionDepot", "moveTo", "(I)I"⟩, 8) := ⟨⟨by decide +kernel, by decide +kernel⟩, List.mem_of_getElem? (i := 10) (by decide +kernel), List.mem_of_getElem? (i := 199) (by decide +kernel), List.mem_of_getElem? (i := 200) (by decide +kernel)⟩
theorem lw_p6 : lw_okq (⟨"VersionDepot", "mergeApart", "(I)I"⟩, 8) := ⟨⟨by decide +kernel, by decide +kernel⟩, List.mem_of_getElem? (i := 10) (by decide +kernel), List.mem_of_getElem? (i := 211) (by decide +kernel), List.mem_of_getElem? (i := 212) (by decide +kernel)⟩
theorem lw_p7 : lw_okq (⟨"VersionDepot", "mixHereWith", "(II)I"⟩, 8) := ⟨⟨by decide +kernel, by decide +kernel⟩, List.mem_of_getElem? (i := 10) (by decide +kernel), List.mem_of_getElem? (i := 219) (by decide +kernel), List.mem_of_getElem? (i := 220) (by decide +kernel)⟩
theorem lw_p8 : lw_okq (⟨"VersionDepotModel", "clashes", "()I"⟩, 12) := ⟨⟨by decide +kernel, by decide +kernel⟩, List.mem_of_getElem? (i := 341) (by decide +kernel), List.mem_of_getElem? (i := 399) (by decide +kernel), List.mem_of_getElem? (i := 400) (by decide +kernel)⟩
theorem lw_p9 : lw_okq (⟨"VersionDepotModel", "here", "()I"⟩, 12) := ⟨⟨by decide +kernel, by decide +kernel⟩, List.mem_of_getElem? (i := 341) (by decide +kernel), List.mem_of_getElem? (i := 403) (by decide +kernel), List.mem_of_getElem? (i := 404) (by decide +kernel)⟩
theorem lw_p10 : lw_okq (⟨"VersionDepotModel", "same", "(II)Z"⟩, 12) := ⟨⟨by decide +kernel, by decide +kernel⟩, List.mem_of_getElem? (i := 341) (by decide +kernel), List.mem_of_getElem? (i := 407) (by decide +kernel), List.mem_of_getElem? (i := 408) (by decide +kernel)⟩
theorem lw_p11 : lw_okq (⟨"VersionDepotModel", "make", "(III)I"⟩, 12) := ⟨⟨by decide +kernel, by decide +kernel⟩, List.mem_of_getElem? (i := 341) (by decide +kernel), List.mem_of_getElem? (i := 411) (by decide +kernel), List.mem_of_getElem? (i := 412) (by decide +kernel)⟩
theorem lw_p12 : lw_okq (⟨"VersionDepotModel", "copy", "(II)V"⟩, 12) := ⟨⟨by decide +kernel, by decide +kernel⟩, List.mem_of_getElem? (i := 341) (by decide +kernel), List.mem_of_getElem? (i := 415) (by decide +kernel), List.mem_of_getElem? (i := 416) (by decide +kernel)⟩
theorem lw_p13 : lw_okq (⟨"VersionDepotModel", "tidy", "()Z"⟩, 12) := ⟨⟨by decide +kernel, by decide +kernel⟩, List.mem_of_getElem? (i := 341) (by decide +kernel), List.mem_of_getElem? (i := 427) (by decide +kernel), List.mem_of_getElem? (i := 428) (by decide +kernel)⟩
theorem lw_p14 : lw_okq (⟨"VersionDepotModel", "show", "(I)V"⟩, 12) := ⟨⟨by decide +kernel, by decide +kernel⟩, List.mem_of_getElem? (i := 341) (by decide +kernel), List.mem_of_getElem? (i := 431) (by decide +kernel), List.mem_of_getElem? (i := 432) (by decide +kernel)⟩
theorem lw_p15 : lw_okq (⟨"VersionDepotModel", "shared", "(II)I"⟩, 12) := ⟨⟨by decide +kernel, by decide +kernel⟩, List.mem_of_getElem? (i := 341) (by decide +kernel), List.mem_of_getElem? (i := 439) (by decide +kernel), List.mem_of_getElem? (i := 440) (by decide +kernel)⟩
def lw_privs_1 : List (MethodName × Nat) := [(⟨"VersionDepot", "isAsHere", "([I)Z"⟩, 8), (⟨"VersionDepot", "here", "()I"⟩, 8), (⟨"VersionDepot", "isThere", "(I)Z"⟩, 8), (⟨"VersionDepot", "isTidy", "()Z"⟩, 8), (⟨"VersionDepot", "unstaged", "()I"⟩, 8), (⟨"VersionDepot", "moveTo", "(I)I"⟩, 8), (⟨"VersionDepot", "mergeApart", "(I)I"⟩, 8), (⟨"VersionDepot", "mixHereWith", "(II)I"⟩, 8), (⟨"VersionDepotModel", "clashes", "()I"⟩, 12), (⟨"VersionDepotModel", "here", "()I"⟩, 12), (⟨"VersionDepotModel", "same", "(II)Z"⟩, 12), (⟨"VersionDepotModel", "make", "(III)I"⟩, 12), (⟨"VersionDepotModel", "copy", "(II)V"⟩, 12), (⟨"VersionDepotModel", "tidy", "()Z"⟩, 12), (⟨"VersionDepotModel", "show", "(I)V"⟩, 12), (⟨"VersionDepotModel", "shared", "(II)I"⟩, 12)]
theorem lw_r1 : ∀ q ∈ lw_privs_1, lw_okq q := List.forall_mem_cons.mpr ⟨lw_p0, List.forall_mem_cons.mpr ⟨lw_p1, List.forall_mem_cons.mpr ⟨lw_p2, List.forall_mem_cons.mpr ⟨lw_p3, List.forall_mem_cons.mpr ⟨lw_p4, List.forall_mem_cons.mpr ⟨lw_p5, List.forall_mem_cons.mpr ⟨lw_p6, List.forall_mem_cons.mpr ⟨lw_p7, List.forall_mem_cons.mpr ⟨lw_p8, List.forall_mem_cons.mpr ⟨lw_p9, List.forall_mem_cons.mpr ⟨lw_p10, List.forall_mem_cons.mpr ⟨lw_p11, List.forall_mem_cons.mpr ⟨lw_p12, List.forall_mem_cons.mpr ⟨lw_p13, List.forall_mem_cons.mpr ⟨lw_p14, List.forall_mem_cons.mpr ⟨lw_p15, fun _ h => absurd h List.not_mem_nil⟩⟩⟩⟩⟩⟩⟩⟩⟩⟩⟩⟩⟩⟩⟩⟩
theorem lw_p16 : lw_okq (⟨"VersionDepotModel", "mark", "(I)V"⟩, 12) := ⟨⟨by decide +kernel, by decide +kernel⟩, List.mem_of_getElem? (i := 341) (by decide +kernel), List.mem_of_getElem? (i := 443) (by decide +kernel), List.mem_of_getElem? (i := 444) (by decide +kernel)⟩
theorem lw_p17 : lw_okq (⟨"VersionDepotModel", "mix", "(IIIZ)I"⟩, 12) := ⟨⟨by decide +kernel, by decide +kernel⟩, List.mem_of_getElem? (i := 341) (by decide +kernel), List.mem_of_getElem? (i := 447) (by decide +kernel), List.mem_of_getElem? (i := 448) (by decide +kernel)⟩
theorem lw_p18 : lw_okq (⟨"VersionDepotModel", "isStored", "(I)Z"⟩, 12) := ⟨⟨by decide +kernel, by decide +kernel⟩, List.mem_of_getElem? (i := 341) (by decide +kernel), List.mem_of_getElem? (i := 459) (by decide +kernel), List.mem_of_getElem? (i := 460) (by decide +kernel)⟩
theorem lw_p19 : lw_okq (⟨"VersionDepotModel", "objects", "()I"⟩, 12) := ⟨⟨by decide +kernel, by decide +kernel⟩, List.mem_of_getElem? (i := 341) (by decide +kernel), List.mem_of_getElem? (i := 475) (by decide +kernel), List.mem_of_getElem? (i := 476) (by decide +kernel)⟩
theorem lw_p20 : lw_okq (⟨"VersionDepotModel", "folders", "()I"⟩, 12) := ⟨⟨by decide +kernel, by decide +kernel⟩, List.mem_of_getElem? (i := 341) (by decide +kernel), List.mem_of_getElem? (i := 483) (by decide +kernel), List.mem_of_getElem? (i := 484) (by decide +kernel)⟩
theorem lw_p21 : lw_okq (⟨"VersionDepotModel", "alike", "(II)Z"⟩, 12) := ⟨⟨by decide +kernel, by decide +kernel⟩, List.mem_of_getElem? (i := 341) (by decide +kernel), List.mem_of_getElem? (i := 487) (by decide +kernel), List.mem_of_getElem? (i := 488) (by decide +kernel)⟩
theorem lw_p22 : lw_okq (⟨"VersionDepotModel", "roots", "()I"⟩, 12) := ⟨⟨by decide +kernel, by decide +kernel⟩, List.mem_of_getElem? (i := 341) (by decide +kernel), List.mem_of_getElem? (i := 491) (by decide +kernel), List.mem_of_getElem? (i := 492) (by decide +kernel)⟩
theorem lw_p23 : lw_okq (⟨"VersionDepotModel", "changed", "()I"⟩, 12) := ⟨⟨by decide +kernel, by decide +kernel⟩, List.mem_of_getElem? (i := 341) (by decide +kernel), List.mem_of_getElem? (i := 495) (by decide +kernel), List.mem_of_getElem? (i := 496) (by decide +kernel)⟩
def lw_privs_2 : List (MethodName × Nat) := [(⟨"VersionDepotModel", "mark", "(I)V"⟩, 12), (⟨"VersionDepotModel", "mix", "(IIIZ)I"⟩, 12), (⟨"VersionDepotModel", "isStored", "(I)Z"⟩, 12), (⟨"VersionDepotModel", "objects", "()I"⟩, 12), (⟨"VersionDepotModel", "folders", "()I"⟩, 12), (⟨"VersionDepotModel", "alike", "(II)Z"⟩, 12), (⟨"VersionDepotModel", "roots", "()I"⟩, 12), (⟨"VersionDepotModel", "changed", "()I"⟩, 12)]
theorem lw_r2 : ∀ q ∈ lw_privs_2, lw_okq q := List.forall_mem_cons.mpr ⟨lw_p16, List.forall_mem_cons.mpr ⟨lw_p17, List.forall_mem_cons.mpr ⟨lw_p18, List.forall_mem_cons.mpr ⟨lw_p19, List.forall_mem_cons.mpr ⟨lw_p20, List.forall_mem_cons.mpr ⟨lw_p21, List.forall_mem_cons.mpr ⟨lw_p22, List.forall_mem_cons.mpr ⟨lw_p23, fun _ h => absurd h List.not_mem_nil⟩⟩⟩⟩⟩⟩⟩⟩
def lw_privs : List (MethodName × Nat) := lw_privs_1 ++ (lw_privs_2)
def lw_tbl : List Cond := k2_sels lw_privs ++ tables_1
theorem lw_privs_ok : ∀ q ∈ lw_privs, lw_okq q := by
  show ∀ q ∈ lw_privs_1 ++ (lw_privs_2), lw_okq q
  exact List.forall_mem_append.mpr ⟨lw_r1, lw_r2⟩

def vd_tbl : List Cond := lw_tbl.filter goodWord
theorem vd_mt {w : Cond} (h : w ∈ lw_tbl) (g : goodWord w = true) : w ∈ vd_tbl := List.mem_filter.mpr ⟨h, g⟩
theorem vd_mts {ws : List Cond} (h : ∀ w ∈ ws, w ∈ lw_tbl) (g : ws.all goodWord = true) : ∀ w ∈ ws, w ∈ vd_tbl := fun w hw => vd_mt (h w hw) (List.all_eq_true.mp g w hw)
def R_B : String := "VersionDepot$Blobs"
def T_B : u_T := fun k => match k with
  | _ => ("VersionDepot$Blobs", "bits", "[J", true)
def ty_B : Nat → FieldType := fun k => match k with
  | _ => .array .long
theorem nm_B : ∀ a, a < 1 → ∀ b, b < 1 → a ≠ b → (T_B a).2.1 ≠ (T_B b).2.1 := by decide +kernel
theorem tyok_B : ∀ k, k < 1 → parseFieldDescriptor (T_B k).2.2.1 = some (ty_B k) := by decide +kernel
theorem in_B : ∀ w ∈ u_ws R_B T_B 1, w ∈ vd_tbl := vd_mts (by decide +kernel) (by decide +kernel)
def R_W : String := "VersionDepot$Rows"
def T_W : u_T := fun k => match k with
  | 0 => ("VersionDepot$Rows", "numbers", "[I", true)
  | 1 => ("VersionDepot$Rows", "stored", "[Z", true)
  | _ => ("VersionDepot$Rows", "last", "I", false)
def ty_W : Nat → FieldType := fun k => match k with
  | 0 => .array .int
  | 1 => .array .boolean
  | _ => .int
theorem nm_W : ∀ a, a < 3 → ∀ b, b < 3 → a ≠ b → (T_W a).2.1 ≠ (T_W b).2.1 := by decide +kernel
theorem tyok_W : ∀ k, k < 3 → parseFieldDescriptor (T_W k).2.2.1 = some (ty_W k) := by decide +kernel
theorem in_W : ∀ w ∈ u_ws R_W T_W 3, w ∈ vd_tbl := vd_mts (by decide +kernel) (by decide +kernel)
def R_S : String := "VersionDepot$Store"
def T_S : u_T := fun k => match k with
  | 0 => ("VersionDepot$Store", "blobs", "LVersionDepot$Blobs;", true)
  | 1 => ("VersionDepot$Store", "folders", "LVersionDepot$Rows;", true)
  | 2 => ("VersionDepot$Store", "roots", "LVersionDepot$Rows;", true)
  | 3 => ("VersionDepot$Store", "rootOf", "[I", true)
  | 4 => ("VersionDepot$Store", "firstParents", "[I", true)
  | 5 => ("VersionDepot$Store", "secondParents", "[I", true)
  | 6 => ("VersionDepot$Store", "ancestors", "[I", true)
  | 7 => ("VersionDepot$Store", "folderRow", "[I", true)
  | 8 => ("VersionDepot$Store", "made", "I", false)
  | _ => ("VersionDepot$Store", "stored", "I", false)
def ty_S : Nat → FieldType := fun k => match k with
  | 0 => .object "VersionDepot$Blobs"
  | 1 => .object "VersionDepot$Rows"
  | 2 => .object "VersionDepot$Rows"
  | 3 => .array .int
  | 4 => .array .int
  | 5 => .array .int
  | 6 => .array .int
  | 7 => .array .int
  | 8 => .int
  | _ => .int
theorem nm_S : ∀ a, a < 10 → ∀ b, b < 10 → a ≠ b → (T_S a).2.1 ≠ (T_S b).2.1 := by decide +kernel
theorem tyok_S : ∀ k, k < 10 → parseFieldDescriptor (T_S k).2.2.1 = some (ty_S k) := by decide +kernel
theorem in_S : ∀ w ∈ u_ws R_S T_S 10, w ∈ vd_tbl := vd_mts (by decide +kernel) (by decide +kernel)
def R_D : String := "VersionDepot"
def T_D : u_T := fun k => match k with
  | 0 => ("VersionDepot", "store", "LVersionDepot$Store;", true)
  | 1 => ("VersionDepot", "work", "[I", true)
  | 2 => ("VersionDepot", "index", "[I", true)
  | 3 => ("VersionDepot", "mixture", "[I", true)
  | 4 => ("VersionDepot", "tips", "[I", true)
  | 5 => ("VersionDepot", "head", "I", false)
  | 6 => ("VersionDepot", "merging", "I", false)
  | _ => ("VersionDepot", "clashes", "I", false)
def ty_D : Nat → FieldType := fun k => match k with
  | 0 => .object "VersionDepot$Store"
  | 1 => .array .int
  | 2 => .array .int
  | 3 => .array .int
  | 4 => .array .int
  | 5 => .int
  | 6 => .int
  | _ => .int
theorem nm_D : ∀ a, a < 8 → ∀ b, b < 8 → a ≠ b → (T_D a).2.1 ≠ (T_D b).2.1 := by decide +kernel
theorem tyok_D : ∀ k, k < 8 → parseFieldDescriptor (T_D k).2.2.1 = some (ty_D k) := by decide +kernel
theorem in_D : ∀ w ∈ u_ws R_D T_D 8, w ∈ vd_tbl := vd_mts (by decide +kernel) (by decide +kernel)
def R_M : String := "VersionDepotModel"
def T_M : u_T := fun k => match k with
  | 0 => ("VersionDepotModel", "content", "[I", true)
  | 1 => ("VersionDepotModel", "stored", "[Z", true)
  | 2 => ("VersionDepotModel", "first", "[I", true)
  | 3 => ("VersionDepotModel", "second", "[I", true)
  | 4 => ("VersionDepotModel", "made", "I", false)
  | 5 => ("VersionDepotModel", "branch", "[I", true)
  | 6 => ("VersionDepotModel", "head", "I", false)
  | 7 => ("VersionDepotModel", "merging", "I", false)
  | 8 => ("VersionDepotModel", "clashing", "[Z", true)
  | 9 => ("VersionDepotModel", "blob", "[Z", true)
  | 10 => ("VersionDepotModel", "marked", "[Z", true)
  | _ => ("VersionDepotModel", "other", "[Z", true)
def ty_M : Nat → FieldType := fun k => match k with
  | 0 => .array .int
  | 1 => .array .boolean
  | 2 => .array .int
  | 3 => .array .int
  | 4 => .int
  | 5 => .array .int
  | 6 => .int
  | 7 => .int
  | 8 => .array .boolean
  | 9 => .array .boolean
  | 10 => .array .boolean
  | _ => .array .boolean
theorem nm_M : ∀ a, a < 12 → ∀ b, b < 12 → a ≠ b → (T_M a).2.1 ≠ (T_M b).2.1 := by decide +kernel
theorem tyok_M : ∀ k, k < 12 → parseFieldDescriptor (T_M k).2.2.1 = some (ty_M k) := by decide +kernel
theorem in_M : ∀ w ∈ u_ws R_M T_M 12, w ∈ vd_tbl := vd_mts (by decide +kernel) (by decide +kernel)
abbrev vwCl : List vw_C := [(R_B, T_B, 1), (R_W, T_W, 3), (R_S, T_S, 10), (R_D, T_D, 8), (R_M, T_M, 12)]
end
section
def y_D_init : MethodName := ⟨"VersionDepot", "<init>", "()V"⟩
abbrev c_D_init : ByteArray := prog_1_method_1_code
set_option maxRecDepth 100000 in
theorem mo_D_init : (y_D_init.cls ≠ "java/lang/invoke/MethodHandle" ∧ y_D_init.cls ≠ "java/lang/invoke/VarHandle" ∧ (parseMethodDescriptor y_D_init.desc).map (fun d => d.parameters.length) = some 0 ∧ Cond.code y_D_init c_D_init 1 (none) ∈ vd_tbl ∧ Cond.initialized y_D_init.cls ∈ vd_tbl) := ⟨by decide +kernel, by decide +kernel, by decide +kernel, vd_mt (List.mem_of_getElem? (i := 37) rfl) rfl, vd_mt (List.mem_of_getElem? (i := 25) (by decide +kernel)) rfl⟩
theorem wi_D_init : Cond.instanceMethod y_D_init ∈ vd_tbl := vd_mt (List.mem_of_getElem? (i := 36) (by decide +kernel)) rfl
def y_S_init : MethodName := ⟨"VersionDepot$Store", "<init>", "()V"⟩
abbrev c_S_init : ByteArray := prog_4_method_1_code
set_option maxRecDepth 100000 in
theorem mo_S_init : (y_S_init.cls ≠ "java/lang/invoke/MethodHandle" ∧ y_S_init.cls ≠ "java/lang/invoke/VarHandle" ∧ (parseMethodDescriptor y_S_init.desc).map (fun d => d.parameters.length) = some 0 ∧ Cond.code y_S_init c_S_init 1 (none) ∈ vd_tbl ∧ Cond.initialized y_S_init.cls ∈ vd_tbl) := ⟨by decide +kernel, by decide +kernel, by decide +kernel, vd_mt (List.mem_of_getElem? (i := 45) rfl) rfl, vd_mt (List.mem_of_getElem? (i := 26) (by decide +kernel)) rfl⟩
theorem wi_S_init : Cond.instanceMethod y_S_init ∈ vd_tbl := vd_mt (List.mem_of_getElem? (i := 44) (by decide +kernel)) rfl
def y_B_init : MethodName := ⟨"VersionDepot$Blobs", "<init>", "()V"⟩
abbrev c_B_init : ByteArray := prog_2_method_1_code
set_option maxRecDepth 100000 in
theorem mo_B_init : (y_B_init.cls ≠ "java/lang/invoke/MethodHandle" ∧ y_B_init.cls ≠ "java/lang/invoke/VarHandle" ∧ (parseMethodDescriptor y_B_init.desc).map (fun d => d.parameters.length) = some 0 ∧ Cond.code y_B_init c_B_init 1 (none) ∈ vd_tbl ∧ Cond.initialized y_B_init.cls ∈ vd_tbl) := ⟨by decide +kernel, by decide +kernel, by decide +kernel, vd_mt (List.mem_of_getElem? (i := 51) rfl) rfl, vd_mt (List.mem_of_getElem? (i := 27) (by decide +kernel)) rfl⟩
theorem wi_B_init : Cond.instanceMethod y_B_init ∈ vd_tbl := vd_mt (List.mem_of_getElem? (i := 50) (by decide +kernel)) rfl
def y_W_init : MethodName := ⟨"VersionDepot$Rows", "<init>", "(I)V"⟩
abbrev c_W_init : ByteArray := prog_3_method_1_code
set_option maxRecDepth 100000 in
theorem mo_W_init : (y_W_init.cls ≠ "java/lang/invoke/MethodHandle" ∧ y_W_init.cls ≠ "java/lang/invoke/VarHandle" ∧ (parseMethodDescriptor y_W_init.desc).map (fun d => d.parameters.length) = some 1 ∧ Cond.code y_W_init c_W_init 2 (none) ∈ vd_tbl ∧ Cond.initialized y_W_init.cls ∈ vd_tbl) := ⟨by decide +kernel, by decide +kernel, by decide +kernel, vd_mt (List.mem_of_getElem? (i := 62) rfl) rfl, vd_mt (List.mem_of_getElem? (i := 28) (by decide +kernel)) rfl⟩
theorem wi_W_init : Cond.instanceMethod y_W_init ∈ vd_tbl := vd_mt (List.mem_of_getElem? (i := 61) (by decide +kernel)) rfl
def y_D_write : MethodName := ⟨"VersionDepot", "write", "(II)I"⟩
abbrev c_D_write : ByteArray := prog_1_method_2_code
set_option maxRecDepth 100000 in
theorem mo_D_write : (y_D_write.cls ≠ "java/lang/invoke/MethodHandle" ∧ y_D_write.cls ≠ "java/lang/invoke/VarHandle" ∧ (parseMethodDescriptor y_D_write.desc).map (fun d => d.parameters.length) = some 2 ∧ Cond.code y_D_write c_D_write 3 (some .int) ∈ vd_tbl ∧ Cond.initialized y_D_write.cls ∈ vd_tbl) := ⟨by decide +kernel, by decide +kernel, by decide +kernel, vd_mt (List.mem_of_getElem? (i := 139) rfl) rfl, vd_mt (List.mem_of_getElem? (i := 25) (by decide +kernel)) rfl⟩
theorem wi_D_write : Cond.instanceMethod y_D_write ∈ vd_tbl := vd_mt (List.mem_of_getElem? (i := 137) (by decide +kernel)) rfl
theorem ws_D_write : Cond.selects y_D_write.cls y_D_write y_D_write ∈ vd_tbl := vd_mt (List.mem_of_getElem? (i := 138) (by decide +kernel)) rfl
def y_D_isFile : MethodName := ⟨"VersionDepot", "isFile", "(I)Z"⟩
abbrev c_D_isFile : ByteArray := prog_1_method_21_code
set_option maxRecDepth 100000 in
theorem mo_D_isFile : (y_D_isFile.cls ≠ "java/lang/invoke/MethodHandle" ∧ y_D_isFile.cls ≠ "java/lang/invoke/VarHandle" ∧ (parseMethodDescriptor y_D_isFile.desc).map (fun d => d.parameters.length) = some 1 ∧ Cond.code y_D_isFile c_D_isFile 1 (some .boolean) ∈ vd_tbl ∧ Cond.initialized y_D_isFile.cls ∈ vd_tbl) := ⟨by decide +kernel, by decide +kernel, by decide +kernel, vd_mt (List.mem_of_getElem? (i := 142) rfl) rfl, vd_mt (List.mem_of_getElem? (i := 25) (by decide +kernel)) rfl⟩
theorem wt_D_isFile : Cond.static y_D_isFile ∈ vd_tbl := vd_mt (List.mem_of_getElem? (i := 141) (by decide +kernel)) rfl
def y_D_stage : MethodName := ⟨"VersionDepot", "stage", "(I)I"⟩
abbrev c_D_stage : ByteArray := prog_1_method_3_code
set_option maxRecDepth 100000 in
theorem mo_D_stage : (y_D_stage.cls ≠ "java/lang/invoke/MethodHandle" ∧ y_D_stage.cls ≠ "java/lang/invoke/VarHandle" ∧ (parseMethodDescriptor y_D_stage.desc).map (fun d => d.parameters.length) = some 1 ∧ Cond.code y_D_stage c_D_stage 2 (some .int) ∈ vd_tbl ∧ Cond.initialized y_D_stage.cls ∈ vd_tbl) := ⟨by decide +kernel, by decide +kernel, by decide +kernel, vd_mt (List.mem_of_getElem? (i := 146) rfl) rfl, vd_mt (List.mem_of_getElem? (i := 25) (by decide +kernel)) rfl⟩
theorem wi_D_stage : Cond.instanceMethod y_D_stage ∈ vd_tbl := vd_mt (List.mem_of_getElem? (i := 144) (by decide +kernel)) rfl
theorem ws_D_stage : Cond.selects y_D_stage.cls y_D_stage y_D_stage ∈ vd_tbl := vd_mt (List.mem_of_getElem? (i := 145) (by decide +kernel)) rfl
def y_B_keep : MethodName := ⟨"VersionDepot$Blobs", "keep", "(I)V"⟩
abbrev c_B_keep : ByteArray := prog_2_method_2_code
set_option maxRecDepth 100000 in
theorem mo_B_keep : (y_B_keep.cls ≠ "java/lang/invoke/MethodHandle" ∧ y_B_keep.cls ≠ "java/lang/invoke/VarHandle" ∧ (parseMethodDescriptor y_B_keep.desc).map (fun d => d.parameters.length) = some 1 ∧ Cond.code y_B_keep c_B_keep 2 (none) ∈ vd_tbl ∧ Cond.initialized y_B_keep.cls ∈ vd_tbl) := ⟨by decide +kernel, by decide +kernel, by decide +kernel, vd_mt (List.mem_of_getElem? (i := 150) rfl) rfl, vd_mt (List.mem_of_getElem? (i := 27) (by decide +kernel)) rfl⟩
theorem wi_B_keep : Cond.instanceMethod y_B_keep ∈ vd_tbl := vd_mt (List.mem_of_getElem? (i := 148) (by decide +kernel)) rfl
theorem ws_B_keep : Cond.selects y_B_keep.cls y_B_keep y_B_keep ∈ vd_tbl := vd_mt (List.mem_of_getElem? (i := 149) (by decide +kernel)) rfl
def y_D_commit : MethodName := ⟨"VersionDepot", "commit", "()I"⟩
abbrev c_D_commit : ByteArray := prog_1_method_4_code
set_option maxRecDepth 100000 in
theorem mo_D_commit : (y_D_commit.cls ≠ "java/lang/invoke/MethodHandle" ∧ y_D_commit.cls ≠ "java/lang/invoke/VarHandle" ∧ (parseMethodDescriptor y_D_commit.desc).map (fun d => d.parameters.length) = some 0 ∧ Cond.code y_D_commit c_D_commit 1 (some .int) ∈ vd_tbl ∧ Cond.initialized y_D_commit.cls ∈ vd_tbl) := ⟨by decide +kernel, by decide +kernel, by decide +kernel, vd_mt (List.mem_of_getElem? (i := 154) rfl) rfl, vd_mt (List.mem_of_getElem? (i := 25) (by decide +kernel)) rfl⟩
theorem wi_D_commit : Cond.instanceMethod y_D_commit ∈ vd_tbl := vd_mt (List.mem_of_getElem? (i := 152) (by decide +kernel)) rfl
theorem ws_D_commit : Cond.selects y_D_commit.cls y_D_commit y_D_commit ∈ vd_tbl := vd_mt (List.mem_of_getElem? (i := 153) (by decide +kernel)) rfl
def y_D_isAsHere : MethodName := ⟨"VersionDepot", "isAsHere", "([I)Z"⟩
abbrev c_D_isAsHere : ByteArray := prog_1_method_27_code
set_option maxRecDepth 100000 in
theorem mo_D_isAsHere : (y_D_isAsHere.cls ≠ "java/lang/invoke/MethodHandle" ∧ y_D_isAsHere.cls ≠ "java/lang/invoke/VarHandle" ∧ (parseMethodDescriptor y_D_isAsHere.desc).map (fun d => d.parameters.length) = some 1 ∧ Cond.code y_D_isAsHere c_D_isAsHere 3 (some .boolean) ∈ vd_tbl ∧ Cond.initialized y_D_isAsHere.cls ∈ vd_tbl) := ⟨by decide +kernel, by decide +kernel, by decide +kernel, vd_mt (List.mem_of_getElem? (i := 158) rfl) rfl, vd_mt (List.mem_of_getElem? (i := 25) (by decide +kernel)) rfl⟩
theorem wi_D_isAsHere : Cond.instanceMethod y_D_isAsHere ∈ vd_tbl := vd_mt (List.mem_of_getElem? (i := 157) (by decide +kernel)) rfl
theorem ws_D_isAsHere : Cond.selects y_D_isAsHere.cls y_D_isAsHere y_D_isAsHere ∈ vd_tbl := vd_mt (List.mem_of_getElem? (i := 0) (by decide +kernel)) rfl
def y_D_here : MethodName := ⟨"VersionDepot", "here", "()I"⟩
abbrev c_D_here : ByteArray := prog_1_method_24_code
set_option maxRecDepth 100000 in
theorem mo_D_here : (y_D_here.cls ≠ "java/lang/invoke/MethodHandle" ∧ y_D_here.cls ≠ "java/lang/invoke/VarHandle" ∧ (parseMethodDescriptor y_D_here.desc).map (fun d => d.parameters.length) = some 0 ∧ Cond.code y_D_here c_D_here 1 (some .int) ∈ vd_tbl ∧ Cond.initialized y_D_here.cls ∈ vd_tbl) := ⟨by decide +kernel, by decide +kernel, by decide +kernel, vd_mt (List.mem_of_getElem? (i := 162) rfl) rfl, vd_mt (List.mem_of_getElem? (i := 25) (by decide +kernel)) rfl⟩
theorem wi_D_here : Cond.instanceMethod y_D_here ∈ vd_tbl := vd_mt (List.mem_of_getElem? (i := 161) (by decide +kernel)) rfl
theorem ws_D_here : Cond.selects y_D_here.cls y_D_here y_D_here ∈ vd_tbl := vd_mt (List.mem_of_getElem? (i := 1) (by decide +kernel)) rfl
def y_S_contentOf : MethodName := ⟨"VersionDepot$Store", "contentOf", "(II)I"⟩
abbrev c_S_contentOf : ByteArray := prog_4_method_6_code
set_option maxRecDepth 100000 in
theorem mo_S_contentOf : (y_S_contentOf.cls ≠ "java/lang/invoke/MethodHandle" ∧ y_S_contentOf.cls ≠ "java/lang/invoke/VarHandle" ∧ (parseMethodDescriptor y_S_contentOf.desc).map (fun d => d.parameters.length) = some 2 ∧ Cond.code y_S_contentOf c_S_contentOf 3 (some .int) ∈ vd_tbl ∧ Cond.initialized y_S_contentOf.cls ∈ vd_tbl) := ⟨by decide +kernel, by decide +kernel, by decide +kernel, vd_mt (List.mem_of_getElem? (i := 166) rfl) rfl, vd_mt (List.mem_of_getElem? (i := 26) (by decide +kernel)) rfl⟩
theorem wi_S_contentOf : Cond.instanceMethod y_S_contentOf ∈ vd_tbl := vd_mt (List.mem_of_getElem? (i := 164) (by decide +kernel)) rfl
theorem ws_S_contentOf : Cond.selects y_S_contentOf.cls y_S_contentOf y_S_contentOf ∈ vd_tbl := vd_mt (List.mem_of_getElem? (i := 165) (by decide +kernel)) rfl
def y_W_get : MethodName := ⟨"VersionDepot$Rows", "get", "(II)I"⟩
abbrev c_W_get : ByteArray := prog_3_method_2_code
set_option maxRecDepth 100000 in
theorem mo_W_get : (y_W_get.cls ≠ "java/lang/invoke/MethodHandle" ∧ y_W_get.cls ≠ "java/lang/invoke/VarHandle" ∧ (parseMethodDescriptor y_W_get.desc).map (fun d => d.parameters.length) = some 2 ∧ Cond.code y_W_get c_W_get 3 (some .int) ∈ vd_tbl ∧ Cond.initialized y_W_get.cls ∈ vd_tbl) := ⟨by decide +kernel, by decide +kernel, by decide +kernel, vd_mt (List.mem_of_getElem? (i := 170) rfl) rfl, vd_mt (List.mem_of_getElem? (i := 28) (by decide +kernel)) rfl⟩
theorem wi_W_get : Cond.instanceMethod y_W_get ∈ vd_tbl := vd_mt (List.mem_of_getElem? (i := 168) (by decide +kernel)) rfl
theorem ws_W_get : Cond.selects y_W_get.cls y_W_get y_W_get ∈ vd_tbl := vd_mt (List.mem_of_getElem? (i := 169) (by decide +kernel)) rfl
def y_S_isFull : MethodName := ⟨"VersionDepot$Store", "isFull", "()Z"⟩
abbrev c_S_isFull : ByteArray := prog_4_method_2_code
set_option maxRecDepth 100000 in
theorem mo_S_isFull : (y_S_isFull.cls ≠ "java/lang/invoke/MethodHandle" ∧ y_S_isFull.cls ≠ "java/lang/invoke/VarHandle" ∧ (parseMethodDescriptor y_S_isFull.desc).map (fun d => d.parameters.length) = some 0 ∧ Cond.code y_S_isFull c_S_isFull 1 (some .boolean) ∈ vd_tbl ∧ Cond.initialized y_S_isFull.cls ∈ vd_tbl) := ⟨by decide +kernel, by decide +kernel, by decide +kernel, vd_mt (List.mem_of_getElem? (i := 174) rfl) rfl, vd_mt (List.mem_of_getElem? (i := 26) (by decide +kernel)) rfl⟩
theorem wi_S_isFull : Cond.instanceMethod y_S_isFull ∈ vd_tbl := vd_mt (List.mem_of_getElem? (i := 172) (by decide +kernel)) rfl
theorem ws_S_isFull : Cond.selects y_S_isFull.cls y_S_isFull y_S_isFull ∈ vd_tbl := vd_mt (List.mem_of_getElem? (i := 173) (by decide +kernel)) rfl
def y_S_make : MethodName := ⟨"VersionDepot$Store", "make", "([III)I"⟩
abbrev c_S_make : ByteArray := prog_4_method_11_code
set_option maxRecDepth 100000 in
theorem mo_S_make : (y_S_make.cls ≠ "java/lang/invoke/MethodHandle" ∧ y_S_make.cls ≠ "java/lang/invoke/VarHandle" ∧ (parseMethodDescriptor y_S_make.desc).map (fun d => d.parameters.length) = some 3 ∧ Cond.code y_S_make c_S_make 4 (some .int) ∈ vd_tbl ∧ Cond.initialized y_S_make.cls ∈ vd_tbl) := ⟨by decide +kernel, by decide +kernel, by decide +kernel, vd_mt (List.mem_of_getElem? (i := 178) rfl) rfl, vd_mt (List.mem_of_getElem? (i := 26) (by decide +kernel)) rfl⟩
theorem wi_S_make : Cond.instanceMethod y_S_make ∈ vd_tbl := vd_mt (List.mem_of_getElem? (i := 176) (by decide +kernel)) rfl
theorem ws_S_make : Cond.selects y_S_make.cls y_S_make y_S_make ∈ vd_tbl := vd_mt (List.mem_of_getElem? (i := 177) (by decide +kernel)) rfl
def y_S_keepRoot : MethodName := ⟨"VersionDepot$Store", "keepRoot", "([I)I"⟩
abbrev c_S_keepRoot : ByteArray := prog_4_method_12_code
set_option maxRecDepth 100000 in
theorem mo_S_keepRoot : (y_S_keepRoot.cls ≠ "java/lang/invoke/MethodHandle" ∧ y_S_keepRoot.cls ≠ "java/lang/invoke/VarHandle" ∧ (parseMethodDescriptor y_S_keepRoot.desc).map (fun d => d.parameters.length) = some 1 ∧ Cond.code y_S_keepRoot c_S_keepRoot 3 (some .int) ∈ vd_tbl ∧ Cond.initialized y_S_keepRoot.cls ∈ vd_tbl) := ⟨by decide +kernel, by decide +kernel, by decide +kernel, vd_mt (List.mem_of_getElem? (i := 182) rfl) rfl, vd_mt (List.mem_of_getElem? (i := 26) (by decide +kernel)) rfl⟩
theorem wi_S_keepRoot : Cond.instanceMethod y_S_keepRoot ∈ vd_tbl := vd_mt (List.mem_of_getElem? (i := 180) (by decide +kernel)) rfl
theorem ws_S_keepRoot : Cond.selects y_S_keepRoot.cls y_S_keepRoot y_S_keepRoot ∈ vd_tbl := vd_mt (List.mem_of_getElem? (i := 181) (by decide +kernel)) rfl
def y_S_keepFolder : MethodName := ⟨"VersionDepot$Store", "keepFolder", "([II)I"⟩
abbrev c_S_keepFolder : ByteArray := prog_4_method_13_code
set_option maxRecDepth 100000 in
theorem mo_S_keepFolder : (y_S_keepFolder.cls ≠ "java/lang/invoke/MethodHandle" ∧ y_S_keepFolder.cls ≠ "java/lang/invoke/VarHandle" ∧ (parseMethodDescriptor y_S_keepFolder.desc).map (fun d => d.parameters.length) = some 2 ∧ Cond.code y_S_keepFolder c_S_keepFolder 5 (some .int) ∈ vd_tbl ∧ Cond.initialized y_S_keepFolder.cls ∈ vd_tbl) := ⟨by decide +kernel, by decide +kernel, by decide +kernel, vd_mt (List.mem_of_getElem? (i := 186) rfl) rfl, vd_mt (List.mem_of_getElem? (i := 26) (by decide +kernel)) rfl⟩
theorem wi_S_keepFolder : Cond.instanceMethod y_S_keepFolder ∈ vd_tbl := vd_mt (List.mem_of_getElem? (i := 184) (by decide +kernel)) rfl
theorem ws_S_keepFolder : Cond.selects y_S_keepFolder.cls y_S_keepFolder y_S_keepFolder ∈ vd_tbl := vd_mt (List.mem_of_getElem? (i := 185) (by decide +kernel)) rfl
def y_W_keep : MethodName := ⟨"VersionDepot$Rows", "keep", "([II)I"⟩
abbrev c_W_keep : ByteArray := prog_3_method_3_code
set_option maxRecDepth 100000 in
theorem mo_W_keep : (y_W_keep.cls ≠ "java/lang/invoke/MethodHandle" ∧ y_W_keep.cls ≠ "java/lang/invoke/VarHandle" ∧ (parseMethodDescriptor y_W_keep.desc).map (fun d => d.parameters.length) = some 2 ∧ Cond.code y_W_keep c_W_keep 4 (some .int) ∈ vd_tbl ∧ Cond.initialized y_W_keep.cls ∈ vd_tbl) := ⟨by decide +kernel, by decide +kernel, by decide +kernel, vd_mt (List.mem_of_getElem? (i := 191) rfl) rfl, vd_mt (List.mem_of_getElem? (i := 28) (by decide +kernel)) rfl⟩
theorem wi_W_keep : Cond.instanceMethod y_W_keep ∈ vd_tbl := vd_mt (List.mem_of_getElem? (i := 189) (by decide +kernel)) rfl
theorem ws_W_keep : Cond.selects y_W_keep.cls y_W_keep y_W_keep ∈ vd_tbl := vd_mt (List.mem_of_getElem? (i := 190) (by decide +kernel)) rfl
def y_W_isAlike : MethodName := ⟨"VersionDepot$Rows", "isAlike", "(I[II)Z"⟩
abbrev c_W_isAlike : ByteArray := prog_3_method_4_code
set_option maxRecDepth 100000 in
theorem mo_W_isAlike : (y_W_isAlike.cls ≠ "java/lang/invoke/MethodHandle" ∧ y_W_isAlike.cls ≠ "java/lang/invoke/VarHandle" ∧ (parseMethodDescriptor y_W_isAlike.desc).map (fun d => d.parameters.length) = some 3 ∧ Cond.code y_W_isAlike c_W_isAlike 5 (some .boolean) ∈ vd_tbl ∧ Cond.initialized y_W_isAlike.cls ∈ vd_tbl) := ⟨by decide +kernel, by decide +kernel, by decide +kernel, vd_mt (List.mem_of_getElem? (i := 195) rfl) rfl, vd_mt (List.mem_of_getElem? (i := 28) (by decide +kernel)) rfl⟩
theorem wi_W_isAlike : Cond.instanceMethod y_W_isAlike ∈ vd_tbl := vd_mt (List.mem_of_getElem? (i := 193) (by decide +kernel)) rfl
theorem ws_W_isAlike : Cond.selects y_W_isAlike.cls y_W_isAlike y_W_isAlike ∈ vd_tbl := vd_mt (List.mem_of_getElem? (i := 194) (by decide +kernel)) rfl
def y_D_branch : MethodName := ⟨"VersionDepot", "branch", "(I)I"⟩
abbrev c_D_branch : ByteArray := prog_1_method_5_code
set_option maxRecDepth 100000 in
theorem mo_D_branch : (y_D_branch.cls ≠ "java/lang/invoke/MethodHandle" ∧ y_D_branch.cls ≠ "java/lang/invoke/VarHandle" ∧ (parseMethodDescriptor y_D_branch.desc).map (fun d => d.parameters.length) = some 1 ∧ Cond.code y_D_branch c_D_branch 2 (some .int) ∈ vd_tbl ∧ Cond.initialized y_D_branch.cls ∈ vd_tbl) := ⟨by decide +kernel, by decide +kernel, by decide +kernel, vd_mt (List.mem_of_getElem? (i := 202) rfl) rfl, vd_mt (List.mem_of_getElem? (i := 25) (by decide +kernel)) rfl⟩
theorem wi_D_branch : Cond.instanceMethod y_D_branch ∈ vd_tbl := vd_mt (List.mem_of_getElem? (i := 200) (by decide +kernel)) rfl
theorem ws_D_branch : Cond.selects y_D_branch.cls y_D_branch y_D_branch ∈ vd_tbl := vd_mt (List.mem_of_getElem? (i := 201) (by decide +kernel)) rfl
def y_D_isBranch : MethodName := ⟨"VersionDepot", "isBranch", "(I)Z"⟩
abbrev c_D_isBranch : ByteArray := prog_1_method_22_code
set_option maxRecDepth 100000 in
theorem mo_D_isBranch : (y_D_isBranch.cls ≠ "java/lang/invoke/MethodHandle" ∧ y_D_isBranch.cls ≠ "java/lang/invoke/VarHandle" ∧ (parseMethodDescriptor y_D_isBranch.desc).map (fun d => d.parameters.length) = some 1 ∧ Cond.code y_D_isBranch c_D_isBranch 1 (some .boolean) ∈ vd_tbl ∧ Cond.initialized y_D_isBranch.cls ∈ vd_tbl) := ⟨by decide +kernel, by decide +kernel, by decide +kernel, vd_mt (List.mem_of_getElem? (i := 205) rfl) rfl, vd_mt (List.mem_of_getElem? (i := 25) (by decide +kernel)) rfl⟩
theorem wt_D_isBranch : Cond.static y_D_isBranch ∈ vd_tbl := vd_mt (List.mem_of_getElem? (i := 204) (by decide +kernel)) rfl
def y_D_turn : MethodName := ⟨"VersionDepot", "turn", "(I)I"⟩
abbrev c_D_turn : ByteArray := prog_1_method_6_code
set_option maxRecDepth 100000 in
theorem mo_D_turn : (y_D_turn.cls ≠ "java/lang/invoke/MethodHandle" ∧ y_D_turn.cls ≠ "java/lang/invoke/VarHandle" ∧ (parseMethodDescriptor y_D_turn.desc).map (fun d => d.parameters.length) = some 1 ∧ Cond.code y_D_turn c_D_turn 2 (some .int) ∈ vd_tbl ∧ Cond.initialized y_D_turn.cls ∈ vd_tbl) := ⟨by decide +kernel, by decide +kernel, by decide +kernel, vd_mt (List.mem_of_getElem? (i := 209) rfl) rfl, vd_mt (List.mem_of_getElem? (i := 25) (by decide +kernel)) rfl⟩
theorem wi_D_turn : Cond.instanceMethod y_D_turn ∈ vd_tbl := vd_mt (List.mem_of_getElem? (i := 207) (by decide +kernel)) rfl
theorem ws_D_turn : Cond.selects y_D_turn.cls y_D_turn y_D_turn ∈ vd_tbl := vd_mt (List.mem_of_getElem? (i := 208) (by decide +kernel)) rfl
def y_D_isThere : MethodName := ⟨"VersionDepot", "isThere", "(I)Z"⟩
abbrev c_D_isThere : ByteArray := prog_1_method_23_code
set_option maxRecDepth 100000 in
theorem mo_D_isThere : (y_D_isThere.cls ≠ "java/lang/invoke/MethodHandle" ∧ y_D_isThere.cls ≠ "java/lang/invoke/VarHandle" ∧ (parseMethodDescriptor y_D_isThere.desc).map (fun d => d.parameters.length) = some 1 ∧ Cond.code y_D_isThere c_D_isThere 2 (some .boolean) ∈ vd_tbl ∧ Cond.initialized y_D_isThere.cls ∈ vd_tbl) := ⟨by decide +kernel, by decide +kernel, by decide +kernel, vd_mt (List.mem_of_getElem? (i := 213) rfl) rfl, vd_mt (List.mem_of_getElem? (i := 25) (by decide +kernel)) rfl⟩
theorem wi_D_isThere : Cond.instanceMethod y_D_isThere ∈ vd_tbl := vd_mt (List.mem_of_getElem? (i := 212) (by decide +kernel)) rfl
theorem ws_D_isThere : Cond.selects y_D_isThere.cls y_D_isThere y_D_isThere ∈ vd_tbl := vd_mt (List.mem_of_getElem? (i := 2) (by decide +kernel)) rfl
def y_D_isTidy : MethodName := ⟨"VersionDepot", "isTidy", "()Z"⟩
abbrev c_D_isTidy : ByteArray := prog_1_method_25_code
set_option maxRecDepth 100000 in
theorem mo_D_isTidy : (y_D_isTidy.cls ≠ "java/lang/invoke/MethodHandle" ∧ y_D_isTidy.cls ≠ "java/lang/invoke/VarHandle" ∧ (parseMethodDescriptor y_D_isTidy.desc).map (fun d => d.parameters.length) = some 0 ∧ Cond.code y_D_isTidy c_D_isTidy 1 (some .boolean) ∈ vd_tbl ∧ Cond.initialized y_D_isTidy.cls ∈ vd_tbl) := ⟨by decide +kernel, by decide +kernel, by decide +kernel, vd_mt (List.mem_of_getElem? (i := 217) rfl) rfl, vd_mt (List.mem_of_getElem? (i := 25) (by decide +kernel)) rfl⟩
theorem wi_D_isTidy : Cond.instanceMethod y_D_isTidy ∈ vd_tbl := vd_mt (List.mem_of_getElem? (i := 216) (by decide +kernel)) rfl
theorem ws_D_isTidy : Cond.selects y_D_isTidy.cls y_D_isTidy y_D_isTidy ∈ vd_tbl := vd_mt (List.mem_of_getElem? (i := 3) (by decide +kernel)) rfl
def y_D_unstaged : MethodName := ⟨"VersionDepot", "unstaged", "()I"⟩
abbrev c_D_unstaged : ByteArray := prog_1_method_26_code
set_option maxRecDepth 100000 in
theorem mo_D_unstaged : (y_D_unstaged.cls ≠ "java/lang/invoke/MethodHandle" ∧ y_D_unstaged.cls ≠ "java/lang/invoke/VarHandle" ∧ (parseMethodDescriptor y_D_unstaged.desc).map (fun d => d.parameters.length) = some 0 ∧ Cond.code y_D_unstaged c_D_unstaged 3 (some .int) ∈ vd_tbl ∧ Cond.initialized y_D_unstaged.cls ∈ vd_tbl) := ⟨by decide +kernel, by decide +kernel, by decide +kernel, vd_mt (List.mem_of_getElem? (i := 221) rfl) rfl, vd_mt (List.mem_of_getElem? (i := 25) (by decide +kernel)) rfl⟩
theorem wi_D_unstaged : Cond.instanceMethod y_D_unstaged ∈ vd_tbl := vd_mt (List.mem_of_getElem? (i := 220) (by decide +kernel)) rfl
theorem ws_D_unstaged : Cond.selects y_D_unstaged.cls y_D_unstaged y_D_unstaged ∈ vd_tbl := vd_mt (List.mem_of_getElem? (i := 4) (by decide +kernel)) rfl
def y_D_moveTo : MethodName := ⟨"VersionDepot", "moveTo", "(I)I"⟩
abbrev c_D_moveTo : ByteArray := prog_1_method_28_code
set_option maxRecDepth 100000 in
theorem mo_D_moveTo : (y_D_moveTo.cls ≠ "java/lang/invoke/MethodHandle" ∧ y_D_moveTo.cls ≠ "java/lang/invoke/VarHandle" ∧ (parseMethodDescriptor y_D_moveTo.desc).map (fun d => d.parameters.length) = some 1 ∧ Cond.code y_D_moveTo c_D_moveTo 3 (some .int) ∈ vd_tbl ∧ Cond.initialized y_D_moveTo.cls ∈ vd_tbl) := ⟨by decide +kernel, by decide +kernel, by decide +kernel, vd_mt (List.mem_of_getElem? (i := 225) rfl) rfl, vd_mt (List.mem_of_getElem? (i := 25) (by decide +kernel)) rfl⟩
theorem wi_D_moveTo : Cond.instanceMethod y_D_moveTo ∈ vd_tbl := vd_mt (List.mem_of_getElem? (i := 224) (by decide +kernel)) rfl
theorem ws_D_moveTo : Cond.selects y_D_moveTo.cls y_D_moveTo y_D_moveTo ∈ vd_tbl := vd_mt (List.mem_of_getElem? (i := 5) (by decide +kernel)) rfl
def y_D_merge : MethodName := ⟨"VersionDepot", "merge", "(I)I"⟩
abbrev c_D_merge : ByteArray := prog_1_method_7_code
set_option maxRecDepth 100000 in
theorem mo_D_merge : (y_D_merge.cls ≠ "java/lang/invoke/MethodHandle" ∧ y_D_merge.cls ≠ "java/lang/invoke/VarHandle" ∧ (parseMethodDescriptor y_D_merge.desc).map (fun d => d.parameters.length) = some 1 ∧ Cond.code y_D_merge c_D_merge 3 (some .int) ∈ vd_tbl ∧ Cond.initialized y_D_merge.cls ∈ vd_tbl) := ⟨by decide +kernel, by decide +kernel, by decide +kernel, vd_mt (List.mem_of_getElem? (i := 229) rfl) rfl, vd_mt (List.mem_of_getElem? (i := 25) (by decide +kernel)) rfl⟩
theorem wi_D_merge : Cond.instanceMethod y_D_merge ∈ vd_tbl := vd_mt (List.mem_of_getElem? (i := 227) (by decide +kernel)) rfl
theorem ws_D_merge : Cond.selects y_D_merge.cls y_D_merge y_D_merge ∈ vd_tbl := vd_mt (List.mem_of_getElem? (i := 228) (by decide +kernel)) rfl
def y_S_leadsTo : MethodName := ⟨"VersionDepot$Store", "leadsTo", "(II)Z"⟩
abbrev c_S_leadsTo : ByteArray := prog_4_method_9_code
set_option maxRecDepth 100000 in
theorem mo_S_leadsTo : (y_S_leadsTo.cls ≠ "java/lang/invoke/MethodHandle" ∧ y_S_leadsTo.cls ≠ "java/lang/invoke/VarHandle" ∧ (parseMethodDescriptor y_S_leadsTo.desc).map (fun d => d.parameters.length) = some 2 ∧ Cond.code y_S_leadsTo c_S_leadsTo 3 (some .boolean) ∈ vd_tbl ∧ Cond.initialized y_S_leadsTo.cls ∈ vd_tbl) := ⟨by decide +kernel, by decide +kernel, by decide +kernel, vd_mt (List.mem_of_getElem? (i := 233) rfl) rfl, vd_mt (List.mem_of_getElem? (i := 26) (by decide +kernel)) rfl⟩
theorem wi_S_leadsTo : Cond.instanceMethod y_S_leadsTo ∈ vd_tbl := vd_mt (List.mem_of_getElem? (i := 231) (by decide +kernel)) rfl
theorem ws_S_leadsTo : Cond.selects y_S_leadsTo.cls y_S_leadsTo y_S_leadsTo ∈ vd_tbl := vd_mt (List.mem_of_getElem? (i := 232) (by decide +kernel)) rfl
def y_D_mergeApart : MethodName := ⟨"VersionDepot", "mergeApart", "(I)I"⟩
abbrev c_D_mergeApart : ByteArray := prog_1_method_29_code
set_option maxRecDepth 100000 in
theorem mo_D_mergeApart : (y_D_mergeApart.cls ≠ "java/lang/invoke/MethodHandle" ∧ y_D_mergeApart.cls ≠ "java/lang/invoke/VarHandle" ∧ (parseMethodDescriptor y_D_mergeApart.desc).map (fun d => d.parameters.length) = some 1 ∧ Cond.code y_D_mergeApart c_D_mergeApart 3 (some .int) ∈ vd_tbl ∧ Cond.initialized y_D_mergeApart.cls ∈ vd_tbl) := ⟨by decide +kernel, by decide +kernel, by decide +kernel, vd_mt (List.mem_of_getElem? (i := 237) rfl) rfl, vd_mt (List.mem_of_getElem? (i := 25) (by decide +kernel)) rfl⟩
theorem wi_D_mergeApart : Cond.instanceMethod y_D_mergeApart ∈ vd_tbl := vd_mt (List.mem_of_getElem? (i := 236) (by decide +kernel)) rfl
theorem ws_D_mergeApart : Cond.selects y_D_mergeApart.cls y_D_mergeApart y_D_mergeApart ∈ vd_tbl := vd_mt (List.mem_of_getElem? (i := 6) (by decide +kernel)) rfl
def y_S_meetingOf : MethodName := ⟨"VersionDepot$Store", "meetingOf", "(II)I"⟩
abbrev c_S_meetingOf : ByteArray := prog_4_method_10_code
set_option maxRecDepth 100000 in
theorem mo_S_meetingOf : (y_S_meetingOf.cls ≠ "java/lang/invoke/MethodHandle" ∧ y_S_meetingOf.cls ≠ "java/lang/invoke/VarHandle" ∧ (parseMethodDescriptor y_S_meetingOf.desc).map (fun d => d.parameters.length) = some 2 ∧ Cond.code y_S_meetingOf c_S_meetingOf 5 (some .int) ∈ vd_tbl ∧ Cond.initialized y_S_meetingOf.cls ∈ vd_tbl) := ⟨by decide +kernel, by decide +kernel, by decide +kernel, vd_mt (List.mem_of_getElem? (i := 241) rfl) rfl, vd_mt (List.mem_of_getElem? (i := 26) (by decide +kernel)) rfl⟩
theorem wi_S_meetingOf : Cond.instanceMethod y_S_meetingOf ∈ vd_tbl := vd_mt (List.mem_of_getElem? (i := 239) (by decide +kernel)) rfl
theorem ws_S_meetingOf : Cond.selects y_S_meetingOf.cls y_S_meetingOf y_S_meetingOf ∈ vd_tbl := vd_mt (List.mem_of_getElem? (i := 240) (by decide +kernel)) rfl
def y_D_mixHereWith : MethodName := ⟨"VersionDepot", "mixHereWith", "(II)I"⟩
abbrev c_D_mixHereWith : ByteArray := prog_1_method_30_code
set_option maxRecDepth 100000 in
theorem mo_D_mixHereWith : (y_D_mixHereWith.cls ≠ "java/lang/invoke/MethodHandle" ∧ y_D_mixHereWith.cls ≠ "java/lang/invoke/VarHandle" ∧ (parseMethodDescriptor y_D_mixHereWith.desc).map (fun d => d.parameters.length) = some 2 ∧ Cond.code y_D_mixHereWith c_D_mixHereWith 8 (some .int) ∈ vd_tbl ∧ Cond.initialized y_D_mixHereWith.cls ∈ vd_tbl) := ⟨by decide +kernel, by decide +kernel, by decide +kernel, vd_mt (List.mem_of_getElem? (i := 245) rfl) rfl, vd_mt (List.mem_of_getElem? (i := 25) (by decide +kernel)) rfl⟩
theorem wi_D_mixHereWith : Cond.instanceMethod y_D_mixHereWith ∈ vd_tbl := vd_mt (List.mem_of_getElem? (i := 244) (by decide +kernel)) rfl
theorem ws_D_mixHereWith : Cond.selects y_D_mixHereWith.cls y_D_mixHereWith y_D_mixHereWith ∈ vd_tbl := vd_mt (List.mem_of_getElem? (i := 7) (by decide +kernel)) rfl
def y_D_abort : MethodName := ⟨"VersionDepot", "abort", "()I"⟩
abbrev c_D_abort : ByteArray := prog_1_method_8_code
set_option maxRecDepth 100000 in
theorem mo_D_abort : (y_D_abort.cls ≠ "java/lang/invoke/MethodHandle" ∧ y_D_abort.cls ≠ "java/lang/invoke/VarHandle" ∧ (parseMethodDescriptor y_D_abort.desc).map (fun d => d.parameters.length) = some 0 ∧ Cond.code y_D_abort c_D_abort 1 (some .int) ∈ vd_tbl ∧ Cond.initialized y_D_abort.cls ∈ vd_tbl) := ⟨by decide +kernel, by decide +kernel, by decide +kernel, vd_mt (List.mem_of_getElem? (i := 250) rfl) rfl, vd_mt (List.mem_of_getElem? (i := 25) (by decide +kernel)) rfl⟩
theorem wi_D_abort : Cond.instanceMethod y_D_abort ∈ vd_tbl := vd_mt (List.mem_of_getElem? (i := 248) (by decide +kernel)) rfl
theorem ws_D_abort : Cond.selects y_D_abort.cls y_D_abort y_D_abort ∈ vd_tbl := vd_mt (List.mem_of_getElem? (i := 249) (by decide +kernel)) rfl
def y_D_pick : MethodName := ⟨"VersionDepot", "pick", "(I)I"⟩
abbrev c_D_pick : ByteArray := prog_1_method_9_code
set_option maxRecDepth 100000 in
theorem mo_D_pick : (y_D_pick.cls ≠ "java/lang/invoke/MethodHandle" ∧ y_D_pick.cls ≠ "java/lang/invoke/VarHandle" ∧ (parseMethodDescriptor y_D_pick.desc).map (fun d => d.parameters.length) = some 1 ∧ Cond.code y_D_pick c_D_pick 2 (some .int) ∈ vd_tbl ∧ Cond.initialized y_D_pick.cls ∈ vd_tbl) := ⟨by decide +kernel, by decide +kernel, by decide +kernel, vd_mt (List.mem_of_getElem? (i := 254) rfl) rfl, vd_mt (List.mem_of_getElem? (i := 25) (by decide +kernel)) rfl⟩
theorem wi_D_pick : Cond.instanceMethod y_D_pick ∈ vd_tbl := vd_mt (List.mem_of_getElem? (i := 252) (by decide +kernel)) rfl
theorem ws_D_pick : Cond.selects y_D_pick.cls y_D_pick y_D_pick ∈ vd_tbl := vd_mt (List.mem_of_getElem? (i := 253) (by decide +kernel)) rfl
def y_S_holds : MethodName := ⟨"VersionDepot$Store", "holds", "(I)Z"⟩
abbrev c_S_holds : ByteArray := prog_4_method_3_code
set_option maxRecDepth 100000 in
theorem mo_S_holds : (y_S_holds.cls ≠ "java/lang/invoke/MethodHandle" ∧ y_S_holds.cls ≠ "java/lang/invoke/VarHandle" ∧ (parseMethodDescriptor y_S_holds.desc).map (fun d => d.parameters.length) = some 1 ∧ Cond.code y_S_holds c_S_holds 2 (some .boolean) ∈ vd_tbl ∧ Cond.initialized y_S_holds.cls ∈ vd_tbl) := ⟨by decide +kernel, by decide +kernel, by decide +kernel, vd_mt (List.mem_of_getElem? (i := 258) rfl) rfl, vd_mt (List.mem_of_getElem? (i := 26) (by decide +kernel)) rfl⟩
theorem wi_S_holds : Cond.instanceMethod y_S_holds ∈ vd_tbl := vd_mt (List.mem_of_getElem? (i := 256) (by decide +kernel)) rfl
theorem ws_S_holds : Cond.selects y_S_holds.cls y_S_holds y_S_holds ∈ vd_tbl := vd_mt (List.mem_of_getElem? (i := 257) (by decide +kernel)) rfl
def y_S_parentOf : MethodName := ⟨"VersionDepot$Store", "parentOf", "(II)I"⟩
abbrev c_S_parentOf : ByteArray := prog_4_method_7_code
set_option maxRecDepth 100000 in
theorem mo_S_parentOf : (y_S_parentOf.cls ≠ "java/lang/invoke/MethodHandle" ∧ y_S_parentOf.cls ≠ "java/lang/invoke/VarHandle" ∧ (parseMethodDescriptor y_S_parentOf.desc).map (fun d => d.parameters.length) = some 2 ∧ Cond.code y_S_parentOf c_S_parentOf 3 (some .int) ∈ vd_tbl ∧ Cond.initialized y_S_parentOf.cls ∈ vd_tbl) := ⟨by decide +kernel, by decide +kernel, by decide +kernel, vd_mt (List.mem_of_getElem? (i := 262) rfl) rfl, vd_mt (List.mem_of_getElem? (i := 26) (by decide +kernel)) rfl⟩
theorem wi_S_parentOf : Cond.instanceMethod y_S_parentOf ∈ vd_tbl := vd_mt (List.mem_of_getElem? (i := 260) (by decide +kernel)) rfl
theorem ws_S_parentOf : Cond.selects y_S_parentOf.cls y_S_parentOf y_S_parentOf ∈ vd_tbl := vd_mt (List.mem_of_getElem? (i := 261) (by decide +kernel)) rfl
def y_D_reset : MethodName := ⟨"VersionDepot", "reset", "(I)I"⟩
abbrev c_D_reset : ByteArray := prog_1_method_10_code
set_option maxRecDepth 100000 in
theorem mo_D_reset : (y_D_reset.cls ≠ "java/lang/invoke/MethodHandle" ∧ y_D_reset.cls ≠ "java/lang/invoke/VarHandle" ∧ (parseMethodDescriptor y_D_reset.desc).map (fun d => d.parameters.length) = some 1 ∧ Cond.code y_D_reset c_D_reset 2 (some .int) ∈ vd_tbl ∧ Cond.initialized y_D_reset.cls ∈ vd_tbl) := ⟨by decide +kernel, by decide +kernel, by decide +kernel, vd_mt (List.mem_of_getElem? (i := 266) rfl) rfl, vd_mt (List.mem_of_getElem? (i := 25) (by decide +kernel)) rfl⟩
theorem wi_D_reset : Cond.instanceMethod y_D_reset ∈ vd_tbl := vd_mt (List.mem_of_getElem? (i := 264) (by decide +kernel)) rfl
theorem ws_D_reset : Cond.selects y_D_reset.cls y_D_reset y_D_reset ∈ vd_tbl := vd_mt (List.mem_of_getElem? (i := 265) (by decide +kernel)) rfl
def y_D_remove : MethodName := ⟨"VersionDepot", "remove", "(I)I"⟩
abbrev c_D_remove : ByteArray := prog_1_method_11_code
set_option maxRecDepth 100000 in
theorem mo_D_remove : (y_D_remove.cls ≠ "java/lang/invoke/MethodHandle" ∧ y_D_remove.cls ≠ "java/lang/invoke/VarHandle" ∧ (parseMethodDescriptor y_D_remove.desc).map (fun d => d.parameters.length) = some 1 ∧ Cond.code y_D_remove c_D_remove 2 (some .int) ∈ vd_tbl ∧ Cond.initialized y_D_remove.cls ∈ vd_tbl) := ⟨by decide +kernel, by decide +kernel, by decide +kernel, vd_mt (List.mem_of_getElem? (i := 270) rfl) rfl, vd_mt (List.mem_of_getElem? (i := 25) (by decide +kernel)) rfl⟩
theorem wi_D_remove : Cond.instanceMethod y_D_remove ∈ vd_tbl := vd_mt (List.mem_of_getElem? (i := 268) (by decide +kernel)) rfl
theorem ws_D_remove : Cond.selects y_D_remove.cls y_D_remove y_D_remove ∈ vd_tbl := vd_mt (List.mem_of_getElem? (i := 269) (by decide +kernel)) rfl
def y_D_sweep : MethodName := ⟨"VersionDepot", "sweep", "()I"⟩
abbrev c_D_sweep : ByteArray := prog_1_method_12_code
set_option maxRecDepth 100000 in
theorem mo_D_sweep : (y_D_sweep.cls ≠ "java/lang/invoke/MethodHandle" ∧ y_D_sweep.cls ≠ "java/lang/invoke/VarHandle" ∧ (parseMethodDescriptor y_D_sweep.desc).map (fun d => d.parameters.length) = some 0 ∧ Cond.code y_D_sweep c_D_sweep 4 (some .int) ∈ vd_tbl ∧ Cond.initialized y_D_sweep.cls ∈ vd_tbl) := ⟨by decide +kernel, by decide +kernel, by decide +kernel, vd_mt (List.mem_of_getElem? (i := 274) rfl) rfl, vd_mt (List.mem_of_getElem? (i := 25) (by decide +kernel)) rfl⟩
theorem wi_D_sweep : Cond.instanceMethod y_D_sweep ∈ vd_tbl := vd_mt (List.mem_of_getElem? (i := 272) (by decide +kernel)) rfl
theorem ws_D_sweep : Cond.selects y_D_sweep.cls y_D_sweep y_D_sweep ∈ vd_tbl := vd_mt (List.mem_of_getElem? (i := 273) (by decide +kernel)) rfl
def y_S_size : MethodName := ⟨"VersionDepot$Store", "size", "()I"⟩
abbrev c_S_size : ByteArray := prog_4_method_5_code
set_option maxRecDepth 100000 in
theorem mo_S_size : (y_S_size.cls ≠ "java/lang/invoke/MethodHandle" ∧ y_S_size.cls ≠ "java/lang/invoke/VarHandle" ∧ (parseMethodDescriptor y_S_size.desc).map (fun d => d.parameters.length) = some 0 ∧ Cond.code y_S_size c_S_size 1 (some .int) ∈ vd_tbl ∧ Cond.initialized y_S_size.cls ∈ vd_tbl) := ⟨by decide +kernel, by decide +kernel, by decide +kernel, vd_mt (List.mem_of_getElem? (i := 278) rfl) rfl, vd_mt (List.mem_of_getElem? (i := 26) (by decide +kernel)) rfl⟩
theorem wi_S_size : Cond.instanceMethod y_S_size ∈ vd_tbl := vd_mt (List.mem_of_getElem? (i := 276) (by decide +kernel)) rfl
theorem ws_S_size : Cond.selects y_S_size.cls y_S_size y_S_size ∈ vd_tbl := vd_mt (List.mem_of_getElem? (i := 277) (by decide +kernel)) rfl
def y_B_size : MethodName := ⟨"VersionDepot$Blobs", "size", "()I"⟩
abbrev c_B_size : ByteArray := prog_2_method_4_code
set_option maxRecDepth 100000 in
theorem mo_B_size : (y_B_size.cls ≠ "java/lang/invoke/MethodHandle" ∧ y_B_size.cls ≠ "java/lang/invoke/VarHandle" ∧ (parseMethodDescriptor y_B_size.desc).map (fun d => d.parameters.length) = some 0 ∧ Cond.code y_B_size c_B_size 3 (some .int) ∈ vd_tbl ∧ Cond.initialized y_B_size.cls ∈ vd_tbl) := ⟨by decide +kernel, by decide +kernel, by decide +kernel, vd_mt (List.mem_of_getElem? (i := 282) rfl) rfl, vd_mt (List.mem_of_getElem? (i := 27) (by decide +kernel)) rfl⟩
theorem wi_B_size : Cond.instanceMethod y_B_size ∈ vd_tbl := vd_mt (List.mem_of_getElem? (i := 280) (by decide +kernel)) rfl
theorem ws_B_size : Cond.selects y_B_size.cls y_B_size y_B_size ∈ vd_tbl := vd_mt (List.mem_of_getElem? (i := 281) (by decide +kernel)) rfl
def y_J_bitCount : MethodName := ⟨"java/lang/Long", "bitCount", "(J)I"⟩
abbrev c_J_bitCount : ByteArray := prog_8_method_50_code
set_option maxRecDepth 100000 in
theorem mo_J_bitCount : (y_J_bitCount.cls ≠ "java/lang/invoke/MethodHandle" ∧ y_J_bitCount.cls ≠ "java/lang/invoke/VarHandle" ∧ (parseMethodDescriptor y_J_bitCount.desc).map (fun d => d.parameters.length) = some 1 ∧ Cond.code y_J_bitCount c_J_bitCount 2 (some .int) ∈ vd_tbl ∧ Cond.initialized y_J_bitCount.cls ∈ vd_tbl) := ⟨by decide +kernel, by decide +kernel, by decide +kernel, vd_mt (List.mem_of_getElem? (i := 285) rfl) rfl, vd_mt (List.mem_of_getElem? (i := 31) (by decide +kernel)) rfl⟩
theorem wt_J_bitCount : Cond.static y_J_bitCount ∈ vd_tbl := vd_mt (List.mem_of_getElem? (i := 284) (by decide +kernel)) rfl
def y_W_size : MethodName := ⟨"VersionDepot$Rows", "size", "()I"⟩
abbrev c_W_size : ByteArray := prog_3_method_7_code
set_option maxRecDepth 100000 in
theorem mo_W_size : (y_W_size.cls ≠ "java/lang/invoke/MethodHandle" ∧ y_W_size.cls ≠ "java/lang/invoke/VarHandle" ∧ (parseMethodDescriptor y_W_size.desc).map (fun d => d.parameters.length) = some 0 ∧ Cond.code y_W_size c_W_size 3 (some .int) ∈ vd_tbl ∧ Cond.initialized y_W_size.cls ∈ vd_tbl) := ⟨by decide +kernel, by decide +kernel, by decide +kernel, vd_mt (List.mem_of_getElem? (i := 292) rfl) rfl, vd_mt (List.mem_of_getElem? (i := 28) (by decide +kernel)) rfl⟩
theorem wi_W_size : Cond.instanceMethod y_W_size ∈ vd_tbl := vd_mt (List.mem_of_getElem? (i := 290) (by decide +kernel)) rfl
theorem ws_W_size : Cond.selects y_W_size.cls y_W_size y_W_size ∈ vd_tbl := vd_mt (List.mem_of_getElem? (i := 291) (by decide +kernel)) rfl
def y_S_commits : MethodName := ⟨"VersionDepot$Store", "commits", "()I"⟩
abbrev c_S_commits : ByteArray := prog_4_method_4_code
set_option maxRecDepth 100000 in
theorem mo_S_commits : (y_S_commits.cls ≠ "java/lang/invoke/MethodHandle" ∧ y_S_commits.cls ≠ "java/lang/invoke/VarHandle" ∧ (parseMethodDescriptor y_S_commits.desc).map (fun d => d.parameters.length) = some 0 ∧ Cond.code y_S_commits c_S_commits 1 (some .int) ∈ vd_tbl ∧ Cond.initialized y_S_commits.cls ∈ vd_tbl) := ⟨by decide +kernel, by decide +kernel, by decide +kernel, vd_mt (List.mem_of_getElem? (i := 296) rfl) rfl, vd_mt (List.mem_of_getElem? (i := 26) (by decide +kernel)) rfl⟩
theorem wi_S_commits : Cond.instanceMethod y_S_commits ∈ vd_tbl := vd_mt (List.mem_of_getElem? (i := 294) (by decide +kernel)) rfl
theorem ws_S_commits : Cond.selects y_S_commits.cls y_S_commits y_S_commits ∈ vd_tbl := vd_mt (List.mem_of_getElem? (i := 295) (by decide +kernel)) rfl
def y_I_bitCount : MethodName := ⟨"java/lang/Integer", "bitCount", "(I)I"⟩
abbrev c_I_bitCount : ByteArray := prog_7_method_49_code
set_option maxRecDepth 100000 in
theorem mo_I_bitCount : (y_I_bitCount.cls ≠ "java/lang/invoke/MethodHandle" ∧ y_I_bitCount.cls ≠ "java/lang/invoke/VarHandle" ∧ (parseMethodDescriptor y_I_bitCount.desc).map (fun d => d.parameters.length) = some 1 ∧ Cond.code y_I_bitCount c_I_bitCount 1 (some .int) ∈ vd_tbl ∧ Cond.initialized y_I_bitCount.cls ∈ vd_tbl) := ⟨by decide +kernel, by decide +kernel, by decide +kernel, vd_mt (List.mem_of_getElem? (i := 299) rfl) rfl, vd_mt (List.mem_of_getElem? (i := 32) (by decide +kernel)) rfl⟩
theorem wt_I_bitCount : Cond.static y_I_bitCount ∈ vd_tbl := vd_mt (List.mem_of_getElem? (i := 298) (by decide +kernel)) rfl
def y_S_ancestorsOf : MethodName := ⟨"VersionDepot$Store", "ancestorsOf", "(I)I"⟩
abbrev c_S_ancestorsOf : ByteArray := prog_4_method_8_code
set_option maxRecDepth 100000 in
theorem mo_S_ancestorsOf : (y_S_ancestorsOf.cls ≠ "java/lang/invoke/MethodHandle" ∧ y_S_ancestorsOf.cls ≠ "java/lang/invoke/VarHandle" ∧ (parseMethodDescriptor y_S_ancestorsOf.desc).map (fun d => d.parameters.length) = some 1 ∧ Cond.code y_S_ancestorsOf c_S_ancestorsOf 2 (some .int) ∈ vd_tbl ∧ Cond.initialized y_S_ancestorsOf.cls ∈ vd_tbl) := ⟨by decide +kernel, by decide +kernel, by decide +kernel, vd_mt (List.mem_of_getElem? (i := 306) rfl) rfl, vd_mt (List.mem_of_getElem? (i := 26) (by decide +kernel)) rfl⟩
theorem wi_S_ancestorsOf : Cond.instanceMethod y_S_ancestorsOf ∈ vd_tbl := vd_mt (List.mem_of_getElem? (i := 304) (by decide +kernel)) rfl
theorem ws_S_ancestorsOf : Cond.selects y_S_ancestorsOf.cls y_S_ancestorsOf y_S_ancestorsOf ∈ vd_tbl := vd_mt (List.mem_of_getElem? (i := 305) (by decide +kernel)) rfl
def y_S_keepOnly : MethodName := ⟨"VersionDepot$Store", "keepOnly", "(I)V"⟩
abbrev c_S_keepOnly : ByteArray := prog_4_method_14_code
set_option maxRecDepth 100000 in
theorem mo_S_keepOnly : (y_S_keepOnly.cls ≠ "java/lang/invoke/MethodHandle" ∧ y_S_keepOnly.cls ≠ "java/lang/invoke/VarHandle" ∧ (parseMethodDescriptor y_S_keepOnly.desc).map (fun d => d.parameters.length) = some 1 ∧ Cond.code y_S_keepOnly c_S_keepOnly 3 (none) ∈ vd_tbl ∧ Cond.initialized y_S_keepOnly.cls ∈ vd_tbl) := ⟨by decide +kernel, by decide +kernel, by decide +kernel, vd_mt (List.mem_of_getElem? (i := 310) rfl) rfl, vd_mt (List.mem_of_getElem? (i := 26) (by decide +kernel)) rfl⟩
theorem wi_S_keepOnly : Cond.instanceMethod y_S_keepOnly ∈ vd_tbl := vd_mt (List.mem_of_getElem? (i := 308) (by decide +kernel)) rfl
theorem ws_S_keepOnly : Cond.selects y_S_keepOnly.cls y_S_keepOnly y_S_keepOnly ∈ vd_tbl := vd_mt (List.mem_of_getElem? (i := 309) (by decide +kernel)) rfl
def y_B_clear : MethodName := ⟨"VersionDepot$Blobs", "clear", "()V"⟩
abbrev c_B_clear : ByteArray := prog_2_method_3_code
set_option maxRecDepth 100000 in
theorem mo_B_clear : (y_B_clear.cls ≠ "java/lang/invoke/MethodHandle" ∧ y_B_clear.cls ≠ "java/lang/invoke/VarHandle" ∧ (parseMethodDescriptor y_B_clear.desc).map (fun d => d.parameters.length) = some 0 ∧ Cond.code y_B_clear c_B_clear 2 (none) ∈ vd_tbl ∧ Cond.initialized y_B_clear.cls ∈ vd_tbl) := ⟨by decide +kernel, by decide +kernel, by decide +kernel, vd_mt (List.mem_of_getElem? (i := 314) rfl) rfl, vd_mt (List.mem_of_getElem? (i := 27) (by decide +kernel)) rfl⟩
theorem wi_B_clear : Cond.instanceMethod y_B_clear ∈ vd_tbl := vd_mt (List.mem_of_getElem? (i := 312) (by decide +kernel)) rfl
theorem ws_B_clear : Cond.selects y_B_clear.cls y_B_clear y_B_clear ∈ vd_tbl := vd_mt (List.mem_of_getElem? (i := 313) (by decide +kernel)) rfl
def y_W_clear : MethodName := ⟨"VersionDepot$Rows", "clear", "()V"⟩
abbrev c_W_clear : ByteArray := prog_3_method_6_code
set_option maxRecDepth 100000 in
theorem mo_W_clear : (y_W_clear.cls ≠ "java/lang/invoke/MethodHandle" ∧ y_W_clear.cls ≠ "java/lang/invoke/VarHandle" ∧ (parseMethodDescriptor y_W_clear.desc).map (fun d => d.parameters.length) = some 0 ∧ Cond.code y_W_clear c_W_clear 2 (none) ∈ vd_tbl ∧ Cond.initialized y_W_clear.cls ∈ vd_tbl) := ⟨by decide +kernel, by decide +kernel, by decide +kernel, vd_mt (List.mem_of_getElem? (i := 318) rfl) rfl, vd_mt (List.mem_of_getElem? (i := 28) (by decide +kernel)) rfl⟩
theorem wi_W_clear : Cond.instanceMethod y_W_clear ∈ vd_tbl := vd_mt (List.mem_of_getElem? (i := 316) (by decide +kernel)) rfl
theorem ws_W_clear : Cond.selects y_W_clear.cls y_W_clear y_W_clear ∈ vd_tbl := vd_mt (List.mem_of_getElem? (i := 317) (by decide +kernel)) rfl
def y_S_keepAgain : MethodName := ⟨"VersionDepot$Store", "keepAgain", "(I)V"⟩
abbrev c_S_keepAgain : ByteArray := prog_4_method_15_code
set_option maxRecDepth 100000 in
theorem mo_S_keepAgain : (y_S_keepAgain.cls ≠ "java/lang/invoke/MethodHandle" ∧ y_S_keepAgain.cls ≠ "java/lang/invoke/VarHandle" ∧ (parseMethodDescriptor y_S_keepAgain.desc).map (fun d => d.parameters.length) = some 1 ∧ Cond.code y_S_keepAgain c_S_keepAgain 5 (none) ∈ vd_tbl ∧ Cond.initialized y_S_keepAgain.cls ∈ vd_tbl) := ⟨by decide +kernel, by decide +kernel, by decide +kernel, vd_mt (List.mem_of_getElem? (i := 323) rfl) rfl, vd_mt (List.mem_of_getElem? (i := 26) (by decide +kernel)) rfl⟩
theorem wi_S_keepAgain : Cond.instanceMethod y_S_keepAgain ∈ vd_tbl := vd_mt (List.mem_of_getElem? (i := 321) (by decide +kernel)) rfl
theorem ws_S_keepAgain : Cond.selects y_S_keepAgain.cls y_S_keepAgain y_S_keepAgain ∈ vd_tbl := vd_mt (List.mem_of_getElem? (i := 322) (by decide +kernel)) rfl
def y_W_keepAgain : MethodName := ⟨"VersionDepot$Rows", "keepAgain", "(I)V"⟩
abbrev c_W_keepAgain : ByteArray := prog_3_method_5_code
set_option maxRecDepth 100000 in
theorem mo_W_keepAgain : (y_W_keepAgain.cls ≠ "java/lang/invoke/MethodHandle" ∧ y_W_keepAgain.cls ≠ "java/lang/invoke/VarHandle" ∧ (parseMethodDescriptor y_W_keepAgain.desc).map (fun d => d.parameters.length) = some 1 ∧ Cond.code y_W_keepAgain c_W_keepAgain 2 (none) ∈ vd_tbl ∧ Cond.initialized y_W_keepAgain.cls ∈ vd_tbl) := ⟨by decide +kernel, by decide +kernel, by decide +kernel, vd_mt (List.mem_of_getElem? (i := 327) rfl) rfl, vd_mt (List.mem_of_getElem? (i := 28) (by decide +kernel)) rfl⟩
theorem wi_W_keepAgain : Cond.instanceMethod y_W_keepAgain ∈ vd_tbl := vd_mt (List.mem_of_getElem? (i := 325) (by decide +kernel)) rfl
theorem ws_W_keepAgain : Cond.selects y_W_keepAgain.cls y_W_keepAgain y_W_keepAgain ∈ vd_tbl := vd_mt (List.mem_of_getElem? (i := 326) (by decide +kernel)) rfl
def y_D_content : MethodName := ⟨"VersionDepot", "content", "(II)I"⟩
abbrev c_D_content : ByteArray := prog_1_method_13_code
set_option maxRecDepth 100000 in
theorem mo_D_content : (y_D_content.cls ≠ "java/lang/invoke/MethodHandle" ∧ y_D_content.cls ≠ "java/lang/invoke/VarHandle" ∧ (parseMethodDescriptor y_D_content.desc).map (fun d => d.parameters.length) = some 2 ∧ Cond.code y_D_content c_D_content 3 (some .int) ∈ vd_tbl ∧ Cond.initialized y_D_content.cls ∈ vd_tbl) := ⟨by decide +kernel, by decide +kernel, by decide +kernel, vd_mt (List.mem_of_getElem? (i := 331) rfl) rfl, vd_mt (List.mem_of_getElem? (i := 25) (by decide +kernel)) rfl⟩
theorem wi_D_content : Cond.instanceMethod y_D_content ∈ vd_tbl := vd_mt (List.mem_of_getElem? (i := 329) (by decide +kernel)) rfl
theorem ws_D_content : Cond.selects y_D_content.cls y_D_content y_D_content ∈ vd_tbl := vd_mt (List.mem_of_getElem? (i := 330) (by decide +kernel)) rfl
def y_D_at : MethodName := ⟨"VersionDepot", "at", "(II)I"⟩
abbrev c_D_at : ByteArray := prog_1_method_14_code
set_option maxRecDepth 100000 in
theorem mo_D_at : (y_D_at.cls ≠ "java/lang/invoke/MethodHandle" ∧ y_D_at.cls ≠ "java/lang/invoke/VarHandle" ∧ (parseMethodDescriptor y_D_at.desc).map (fun d => d.parameters.length) = some 2 ∧ Cond.code y_D_at c_D_at 3 (some .int) ∈ vd_tbl ∧ Cond.initialized y_D_at.cls ∈ vd_tbl) := ⟨by decide +kernel, by decide +kernel, by decide +kernel, vd_mt (List.mem_of_getElem? (i := 335) rfl) rfl, vd_mt (List.mem_of_getElem? (i := 25) (by decide +kernel)) rfl⟩
theorem wi_D_at : Cond.instanceMethod y_D_at ∈ vd_tbl := vd_mt (List.mem_of_getElem? (i := 333) (by decide +kernel)) rfl
theorem ws_D_at : Cond.selects y_D_at.cls y_D_at y_D_at ∈ vd_tbl := vd_mt (List.mem_of_getElem? (i := 334) (by decide +kernel)) rfl
def y_D_parent : MethodName := ⟨"VersionDepot", "parent", "(II)I"⟩
abbrev c_D_parent : ByteArray := prog_1_method_15_code
set_option maxRecDepth 100000 in
theorem mo_D_parent : (y_D_parent.cls ≠ "java/lang/invoke/MethodHandle" ∧ y_D_parent.cls ≠ "java/lang/invoke/VarHandle" ∧ (parseMethodDescriptor y_D_parent.desc).map (fun d => d.parameters.length) = some 2 ∧ Cond.code y_D_parent c_D_parent 3 (some .int) ∈ vd_tbl ∧ Cond.initialized y_D_parent.cls ∈ vd_tbl) := ⟨by decide +kernel, by decide +kernel, by decide +kernel, vd_mt (List.mem_of_getElem? (i := 339) rfl) rfl, vd_mt (List.mem_of_getElem? (i := 25) (by decide +kernel)) rfl⟩
theorem wi_D_parent : Cond.instanceMethod y_D_parent ∈ vd_tbl := vd_mt (List.mem_of_getElem? (i := 337) (by decide +kernel)) rfl
theorem ws_D_parent : Cond.selects y_D_parent.cls y_D_parent y_D_parent ∈ vd_tbl := vd_mt (List.mem_of_getElem? (i := 338) (by decide +kernel)) rfl
def y_D_branchAt : MethodName := ⟨"VersionDepot", "branchAt", "(I)I"⟩
abbrev c_D_branchAt : ByteArray := prog_1_method_16_code
set_option maxRecDepth 100000 in
theorem mo_D_branchAt : (y_D_branchAt.cls ≠ "java/lang/invoke/MethodHandle" ∧ y_D_branchAt.cls ≠ "java/lang/invoke/VarHandle" ∧ (parseMethodDescriptor y_D_branchAt.desc).map (fun d => d.parameters.length) = some 1 ∧ Cond.code y_D_branchAt c_D_branchAt 2 (some .int) ∈ vd_tbl ∧ Cond.initialized y_D_branchAt.cls ∈ vd_tbl) := ⟨by decide +kernel, by decide +kernel, by decide +kernel, vd_mt (List.mem_of_getElem? (i := 343) rfl) rfl, vd_mt (List.mem_of_getElem? (i := 25) (by decide +kernel)) rfl⟩
theorem wi_D_branchAt : Cond.instanceMethod y_D_branchAt ∈ vd_tbl := vd_mt (List.mem_of_getElem? (i := 341) (by decide +kernel)) rfl
theorem ws_D_branchAt : Cond.selects y_D_branchAt.cls y_D_branchAt y_D_branchAt ∈ vd_tbl := vd_mt (List.mem_of_getElem? (i := 342) (by decide +kernel)) rfl
def y_D_common : MethodName := ⟨"VersionDepot", "common", "(II)I"⟩
abbrev c_D_common : ByteArray := prog_1_method_17_code
set_option maxRecDepth 100000 in
theorem mo_D_common : (y_D_common.cls ≠ "java/lang/invoke/MethodHandle" ∧ y_D_common.cls ≠ "java/lang/invoke/VarHandle" ∧ (parseMethodDescriptor y_D_common.desc).map (fun d => d.parameters.length) = some 2 ∧ Cond.code y_D_common c_D_common 3 (some .int) ∈ vd_tbl ∧ Cond.initialized y_D_common.cls ∈ vd_tbl) := ⟨by decide +kernel, by decide +kernel, by decide +kernel, vd_mt (List.mem_of_getElem? (i := 347) rfl) rfl, vd_mt (List.mem_of_getElem? (i := 25) (by decide +kernel)) rfl⟩
theorem wi_D_common : Cond.instanceMethod y_D_common ∈ vd_tbl := vd_mt (List.mem_of_getElem? (i := 345) (by decide +kernel)) rfl
theorem ws_D_common : Cond.selects y_D_common.cls y_D_common y_D_common ∈ vd_tbl := vd_mt (List.mem_of_getElem? (i := 346) (by decide +kernel)) rfl
def y_D_differ : MethodName := ⟨"VersionDepot", "differ", "(II)I"⟩
abbrev c_D_differ : ByteArray := prog_1_method_18_code
set_option maxRecDepth 100000 in
theorem mo_D_differ : (y_D_differ.cls ≠ "java/lang/invoke/MethodHandle" ∧ y_D_differ.cls ≠ "java/lang/invoke/VarHandle" ∧ (parseMethodDescriptor y_D_differ.desc).map (fun d => d.parameters.length) = some 2 ∧ Cond.code y_D_differ c_D_differ 5 (some .int) ∈ vd_tbl ∧ Cond.initialized y_D_differ.cls ∈ vd_tbl) := ⟨by decide +kernel, by decide +kernel, by decide +kernel, vd_mt (List.mem_of_getElem? (i := 351) rfl) rfl, vd_mt (List.mem_of_getElem? (i := 25) (by decide +kernel)) rfl⟩
theorem wi_D_differ : Cond.instanceMethod y_D_differ ∈ vd_tbl := vd_mt (List.mem_of_getElem? (i := 349) (by decide +kernel)) rfl
theorem ws_D_differ : Cond.selects y_D_differ.cls y_D_differ y_D_differ ∈ vd_tbl := vd_mt (List.mem_of_getElem? (i := 350) (by decide +kernel)) rfl
def y_D_clashing : MethodName := ⟨"VersionDepot", "clashing", "(I)Z"⟩
abbrev c_D_clashing : ByteArray := prog_1_method_19_code
set_option maxRecDepth 100000 in
theorem mo_D_clashing : (y_D_clashing.cls ≠ "java/lang/invoke/MethodHandle" ∧ y_D_clashing.cls ≠ "java/lang/invoke/VarHandle" ∧ (parseMethodDescriptor y_D_clashing.desc).map (fun d => d.parameters.length) = some 1 ∧ Cond.code y_D_clashing c_D_clashing 2 (some .boolean) ∈ vd_tbl ∧ Cond.initialized y_D_clashing.cls ∈ vd_tbl) := ⟨by decide +kernel, by decide +kernel, by decide +kernel, vd_mt (List.mem_of_getElem? (i := 355) rfl) rfl, vd_mt (List.mem_of_getElem? (i := 25) (by decide +kernel)) rfl⟩
theorem wi_D_clashing : Cond.instanceMethod y_D_clashing ∈ vd_tbl := vd_mt (List.mem_of_getElem? (i := 353) (by decide +kernel)) rfl
theorem ws_D_clashing : Cond.selects y_D_clashing.cls y_D_clashing y_D_clashing ∈ vd_tbl := vd_mt (List.mem_of_getElem? (i := 354) (by decide +kernel)) rfl
def y_D_count : MethodName := ⟨"VersionDepot", "count", "(I)I"⟩
abbrev c_D_count : ByteArray := prog_1_method_20_code
set_option maxRecDepth 100000 in
theorem mo_D_count : (y_D_count.cls ≠ "java/lang/invoke/MethodHandle" ∧ y_D_count.cls ≠ "java/lang/invoke/VarHandle" ∧ (parseMethodDescriptor y_D_count.desc).map (fun d => d.parameters.length) = some 1 ∧ Cond.code y_D_count c_D_count 2 (some .int) ∈ vd_tbl ∧ Cond.initialized y_D_count.cls ∈ vd_tbl) := ⟨by decide +kernel, by decide +kernel, by decide +kernel, vd_mt (List.mem_of_getElem? (i := 359) rfl) rfl, vd_mt (List.mem_of_getElem? (i := 25) (by decide +kernel)) rfl⟩
theorem wi_D_count : Cond.instanceMethod y_D_count ∈ vd_tbl := vd_mt (List.mem_of_getElem? (i := 357) (by decide +kernel)) rfl
theorem ws_D_count : Cond.selects y_D_count.cls y_D_count y_D_count ∈ vd_tbl := vd_mt (List.mem_of_getElem? (i := 358) (by decide +kernel)) rfl
def y_M_init : MethodName := ⟨"VersionDepotModel", "<init>", "()V"⟩
abbrev c_M_init : ByteArray := prog_6_method_1_code
set_option maxRecDepth 100000 in
theorem mo_M_init : (y_M_init.cls ≠ "java/lang/invoke/MethodHandle" ∧ y_M_init.cls ≠ "java/lang/invoke/VarHandle" ∧ (parseMethodDescriptor y_M_init.desc).map (fun d => d.parameters.length) = some 0 ∧ Cond.code y_M_init c_M_init 1 (none) ∈ vd_tbl ∧ Cond.initialized y_M_init.cls ∈ vd_tbl) := ⟨by decide +kernel, by decide +kernel, by decide +kernel, vd_mt (List.mem_of_getElem? (i := 368) rfl) rfl, vd_mt (List.mem_of_getElem? (i := 29) (by decide +kernel)) rfl⟩
theorem wi_M_init : Cond.instanceMethod y_M_init ∈ vd_tbl := vd_mt (List.mem_of_getElem? (i := 367) (by decide +kernel)) rfl
def y_M_write : MethodName := ⟨"VersionDepotModel", "write", "(II)I"⟩
abbrev c_M_write : ByteArray := prog_6_method_9_code
set_option maxRecDepth 100000 in
theorem mo_M_write : (y_M_write.cls ≠ "java/lang/invoke/MethodHandle" ∧ y_M_write.cls ≠ "java/lang/invoke/VarHandle" ∧ (parseMethodDescriptor y_M_write.desc).map (fun d => d.parameters.length) = some 2 ∧ Cond.code y_M_write c_M_write 3 (some .int) ∈ vd_tbl ∧ Cond.initialized y_M_write.cls ∈ vd_tbl) := ⟨by decide +kernel, by decide +kernel, by decide +kernel, vd_mt (List.mem_of_getElem? (i := 410) rfl) rfl, vd_mt (List.mem_of_getElem? (i := 29) (by decide +kernel)) rfl⟩
theorem wi_M_write : Cond.instanceMethod y_M_write ∈ vd_tbl := vd_mt (List.mem_of_getElem? (i := 408) (by decide +kernel)) rfl
theorem ws_M_write : Cond.selects y_M_write.cls y_M_write y_M_write ∈ vd_tbl := vd_mt (List.mem_of_getElem? (i := 409) (by decide +kernel)) rfl
def y_M_in : MethodName := ⟨"VersionDepotModel", "in", "(III)Z"⟩
abbrev c_M_in : ByteArray := prog_6_method_2_code
set_option maxRecDepth 100000 in
theorem mo_M_in : (y_M_in.cls ≠ "java/lang/invoke/MethodHandle" ∧ y_M_in.cls ≠ "java/lang/invoke/VarHandle" ∧ (parseMethodDescriptor y_M_in.desc).map (fun d => d.parameters.length) = some 3 ∧ Cond.code y_M_in c_M_in 3 (some .boolean) ∈ vd_tbl ∧ Cond.initialized y_M_in.cls ∈ vd_tbl) := ⟨by decide +kernel, by decide +kernel, by decide +kernel, vd_mt (List.mem_of_getElem? (i := 413) rfl) rfl, vd_mt (List.mem_of_getElem? (i := 29) (by decide +kernel)) rfl⟩
theorem wt_M_in : Cond.static y_M_in ∈ vd_tbl := vd_mt (List.mem_of_getElem? (i := 412) (by decide +kernel)) rfl
def y_M_stage : MethodName := ⟨"VersionDepotModel", "stage", "(I)I"⟩
abbrev c_M_stage : ByteArray := prog_6_method_10_code
set_option maxRecDepth 100000 in
theorem mo_M_stage : (y_M_stage.cls ≠ "java/lang/invoke/MethodHandle" ∧ y_M_stage.cls ≠ "java/lang/invoke/VarHandle" ∧ (parseMethodDescriptor y_M_stage.desc).map (fun d => d.parameters.length) = some 1 ∧ Cond.code y_M_stage c_M_stage 3 (some .int) ∈ vd_tbl ∧ Cond.initialized y_M_stage.cls ∈ vd_tbl) := ⟨by decide +kernel, by decide +kernel, by decide +kernel, vd_mt (List.mem_of_getElem? (i := 417) rfl) rfl, vd_mt (List.mem_of_getElem? (i := 29) (by decide +kernel)) rfl⟩
theorem wi_M_stage : Cond.instanceMethod y_M_stage ∈ vd_tbl := vd_mt (List.mem_of_getElem? (i := 415) (by decide +kernel)) rfl
theorem ws_M_stage : Cond.selects y_M_stage.cls y_M_stage y_M_stage ∈ vd_tbl := vd_mt (List.mem_of_getElem? (i := 416) (by decide +kernel)) rfl
def y_M_commit : MethodName := ⟨"VersionDepotModel", "commit", "()I"⟩
abbrev c_M_commit : ByteArray := prog_6_method_13_code
set_option maxRecDepth 100000 in
theorem mo_M_commit : (y_M_commit.cls ≠ "java/lang/invoke/MethodHandle" ∧ y_M_commit.cls ≠ "java/lang/invoke/VarHandle" ∧ (parseMethodDescriptor y_M_commit.desc).map (fun d => d.parameters.length) = some 0 ∧ Cond.code y_M_commit c_M_commit 3 (some .int) ∈ vd_tbl ∧ Cond.initialized y_M_commit.cls ∈ vd_tbl) := ⟨by decide +kernel, by decide +kernel, by decide +kernel, vd_mt (List.mem_of_getElem? (i := 421) rfl) rfl, vd_mt (List.mem_of_getElem? (i := 29) (by decide +kernel)) rfl⟩
theorem wi_M_commit : Cond.instanceMethod y_M_commit ∈ vd_tbl := vd_mt (List.mem_of_getElem? (i := 419) (by decide +kernel)) rfl
theorem ws_M_commit : Cond.selects y_M_commit.cls y_M_commit y_M_commit ∈ vd_tbl := vd_mt (List.mem_of_getElem? (i := 420) (by decide +kernel)) rfl
def y_M_clashes : MethodName := ⟨"VersionDepotModel", "clashes", "()I"⟩
abbrev c_M_clashes : ByteArray := prog_6_method_12_code
set_option maxRecDepth 100000 in
theorem mo_M_clashes : (y_M_clashes.cls ≠ "java/lang/invoke/MethodHandle" ∧ y_M_clashes.cls ≠ "java/lang/invoke/VarHandle" ∧ (parseMethodDescriptor y_M_clashes.desc).map (fun d => d.parameters.length) = some 0 ∧ Cond.code y_M_clashes c_M_clashes 3 (some .int) ∈ vd_tbl ∧ Cond.initialized y_M_clashes.cls ∈ vd_tbl) := ⟨by decide +kernel, by decide +kernel, by decide +kernel, vd_mt (List.mem_of_getElem? (i := 425) rfl) rfl, vd_mt (List.mem_of_getElem? (i := 29) (by decide +kernel)) rfl⟩
theorem wi_M_clashes : Cond.instanceMethod y_M_clashes ∈ vd_tbl := vd_mt (List.mem_of_getElem? (i := 424) (by decide +kernel)) rfl
theorem ws_M_clashes : Cond.selects y_M_clashes.cls y_M_clashes y_M_clashes ∈ vd_tbl := vd_mt (List.mem_of_getElem? (i := 8) (by decide +kernel)) rfl
def y_M_here : MethodName := ⟨"VersionDepotModel", "here", "()I"⟩
abbrev c_M_here : ByteArray := prog_6_method_3_code
set_option maxRecDepth 100000 in
theorem mo_M_here : (y_M_here.cls ≠ "java/lang/invoke/MethodHandle" ∧ y_M_here.cls ≠ "java/lang/invoke/VarHandle" ∧ (parseMethodDescriptor y_M_here.desc).map (fun d => d.parameters.length) = some 0 ∧ Cond.code y_M_here c_M_here 1 (some .int) ∈ vd_tbl ∧ Cond.initialized y_M_here.cls ∈ vd_tbl) := ⟨by decide +kernel, by decide +kernel, by decide +kernel, vd_mt (List.mem_of_getElem? (i := 429) rfl) rfl, vd_mt (List.mem_of_getElem? (i := 29) (by decide +kernel)) rfl⟩
theorem wi_M_here : Cond.instanceMethod y_M_here ∈ vd_tbl := vd_mt (List.mem_of_getElem? (i := 428) (by decide +kernel)) rfl
theorem ws_M_here : Cond.selects y_M_here.cls y_M_here y_M_here ∈ vd_tbl := vd_mt (List.mem_of_getElem? (i := 9) (by decide +kernel)) rfl
def y_M_same : MethodName := ⟨"VersionDepotModel", "same", "(II)Z"⟩
abbrev c_M_same : ByteArray := prog_6_method_5_code
set_option maxRecDepth 100000 in
theorem mo_M_same : (y_M_same.cls ≠ "java/lang/invoke/MethodHandle" ∧ y_M_same.cls ≠ "java/lang/invoke/VarHandle" ∧ (parseMethodDescriptor y_M_same.desc).map (fun d => d.parameters.length) = some 2 ∧ Cond.code y_M_same c_M_same 4 (some .boolean) ∈ vd_tbl ∧ Cond.initialized y_M_same.cls ∈ vd_tbl) := ⟨by decide +kernel, by decide +kernel, by decide +kernel, vd_mt (List.mem_of_getElem? (i := 433) rfl) rfl, vd_mt (List.mem_of_getElem? (i := 29) (by decide +kernel)) rfl⟩
theorem wi_M_same : Cond.instanceMethod y_M_same ∈ vd_tbl := vd_mt (List.mem_of_getElem? (i := 432) (by decide +kernel)) rfl
theorem ws_M_same : Cond.selects y_M_same.cls y_M_same y_M_same ∈ vd_tbl := vd_mt (List.mem_of_getElem? (i := 10) (by decide +kernel)) rfl
def y_M_make : MethodName := ⟨"VersionDepotModel", "make", "(III)I"⟩
abbrev c_M_make : ByteArray := prog_6_method_11_code
set_option maxRecDepth 100000 in
theorem mo_M_make : (y_M_make.cls ≠ "java/lang/invoke/MethodHandle" ∧ y_M_make.cls ≠ "java/lang/invoke/VarHandle" ∧ (parseMethodDescriptor y_M_make.desc).map (fun d => d.parameters.length) = some 3 ∧ Cond.code y_M_make c_M_make 5 (some .int) ∈ vd_tbl ∧ Cond.initialized y_M_make.cls ∈ vd_tbl) := ⟨by decide +kernel, by decide +kernel, by decide +kernel, vd_mt (List.mem_of_getElem? (i := 437) rfl) rfl, vd_mt (List.mem_of_getElem? (i := 29) (by decide +kernel)) rfl⟩
theorem wi_M_make : Cond.instanceMethod y_M_make ∈ vd_tbl := vd_mt (List.mem_of_getElem? (i := 436) (by decide +kernel)) rfl
theorem ws_M_make : Cond.selects y_M_make.cls y_M_make y_M_make ∈ vd_tbl := vd_mt (List.mem_of_getElem? (i := 11) (by decide +kernel)) rfl
def y_M_copy : MethodName := ⟨"VersionDepotModel", "copy", "(II)V"⟩
abbrev c_M_copy : ByteArray := prog_6_method_6_code
set_option maxRecDepth 100000 in
theorem mo_M_copy : (y_M_copy.cls ≠ "java/lang/invoke/MethodHandle" ∧ y_M_copy.cls ≠ "java/lang/invoke/VarHandle" ∧ (parseMethodDescriptor y_M_copy.desc).map (fun d => d.parameters.length) = some 2 ∧ Cond.code y_M_copy c_M_copy 4 (none) ∈ vd_tbl ∧ Cond.initialized y_M_copy.cls ∈ vd_tbl) := ⟨by decide +kernel, by decide +kernel, by decide +kernel, vd_mt (List.mem_of_getElem? (i := 441) rfl) rfl, vd_mt (List.mem_of_getElem? (i := 29) (by decide +kernel)) rfl⟩
theorem wi_M_copy : Cond.instanceMethod y_M_copy ∈ vd_tbl := vd_mt (List.mem_of_getElem? (i := 440) (by decide +kernel)) rfl
theorem ws_M_copy : Cond.selects y_M_copy.cls y_M_copy y_M_copy ∈ vd_tbl := vd_mt (List.mem_of_getElem? (i := 12) (by decide +kernel)) rfl
def y_M_branch : MethodName := ⟨"VersionDepotModel", "branch", "(I)I"⟩
abbrev c_M_branch : ByteArray := prog_6_method_14_code
set_option maxRecDepth 100000 in
theorem mo_M_branch : (y_M_branch.cls ≠ "java/lang/invoke/MethodHandle" ∧ y_M_branch.cls ≠ "java/lang/invoke/VarHandle" ∧ (parseMethodDescriptor y_M_branch.desc).map (fun d => d.parameters.length) = some 1 ∧ Cond.code y_M_branch c_M_branch 2 (some .int) ∈ vd_tbl ∧ Cond.initialized y_M_branch.cls ∈ vd_tbl) := ⟨by decide +kernel, by decide +kernel, by decide +kernel, vd_mt (List.mem_of_getElem? (i := 445) rfl) rfl, vd_mt (List.mem_of_getElem? (i := 29) (by decide +kernel)) rfl⟩
theorem wi_M_branch : Cond.instanceMethod y_M_branch ∈ vd_tbl := vd_mt (List.mem_of_getElem? (i := 443) (by decide +kernel)) rfl
theorem ws_M_branch : Cond.selects y_M_branch.cls y_M_branch y_M_branch ∈ vd_tbl := vd_mt (List.mem_of_getElem? (i := 444) (by decide +kernel)) rfl
def y_M_turn : MethodName := ⟨"VersionDepotModel", "turn", "(I)I"⟩
abbrev c_M_turn : ByteArray := prog_6_method_15_code
set_option maxRecDepth 100000 in
theorem mo_M_turn : (y_M_turn.cls ≠ "java/lang/invoke/MethodHandle" ∧ y_M_turn.cls ≠ "java/lang/invoke/VarHandle" ∧ (parseMethodDescriptor y_M_turn.desc).map (fun d => d.parameters.length) = some 1 ∧ Cond.code y_M_turn c_M_turn 2 (some .int) ∈ vd_tbl ∧ Cond.initialized y_M_turn.cls ∈ vd_tbl) := ⟨by decide +kernel, by decide +kernel, by decide +kernel, vd_mt (List.mem_of_getElem? (i := 449) rfl) rfl, vd_mt (List.mem_of_getElem? (i := 29) (by decide +kernel)) rfl⟩
theorem wi_M_turn : Cond.instanceMethod y_M_turn ∈ vd_tbl := vd_mt (List.mem_of_getElem? (i := 447) (by decide +kernel)) rfl
theorem ws_M_turn : Cond.selects y_M_turn.cls y_M_turn y_M_turn ∈ vd_tbl := vd_mt (List.mem_of_getElem? (i := 448) (by decide +kernel)) rfl
def y_M_tidy : MethodName := ⟨"VersionDepotModel", "tidy", "()Z"⟩
abbrev c_M_tidy : ByteArray := prog_6_method_8_code
set_option maxRecDepth 100000 in
theorem mo_M_tidy : (y_M_tidy.cls ≠ "java/lang/invoke/MethodHandle" ∧ y_M_tidy.cls ≠ "java/lang/invoke/VarHandle" ∧ (parseMethodDescriptor y_M_tidy.desc).map (fun d => d.parameters.length) = some 0 ∧ Cond.code y_M_tidy c_M_tidy 1 (some .boolean) ∈ vd_tbl ∧ Cond.initialized y_M_tidy.cls ∈ vd_tbl) := ⟨by decide +kernel, by decide +kernel, by decide +kernel, vd_mt (List.mem_of_getElem? (i := 453) rfl) rfl, vd_mt (List.mem_of_getElem? (i := 29) (by decide +kernel)) rfl⟩
theorem wi_M_tidy : Cond.instanceMethod y_M_tidy ∈ vd_tbl := vd_mt (List.mem_of_getElem? (i := 452) (by decide +kernel)) rfl
theorem ws_M_tidy : Cond.selects y_M_tidy.cls y_M_tidy y_M_tidy ∈ vd_tbl := vd_mt (List.mem_of_getElem? (i := 13) (by decide +kernel)) rfl
def y_M_show : MethodName := ⟨"VersionDepotModel", "show", "(I)V"⟩
abbrev c_M_show : ByteArray := prog_6_method_7_code
set_option maxRecDepth 100000 in
theorem mo_M_show : (y_M_show.cls ≠ "java/lang/invoke/MethodHandle" ∧ y_M_show.cls ≠ "java/lang/invoke/VarHandle" ∧ (parseMethodDescriptor y_M_show.desc).map (fun d => d.parameters.length) = some 1 ∧ Cond.code y_M_show c_M_show 2 (none) ∈ vd_tbl ∧ Cond.initialized y_M_show.cls ∈ vd_tbl) := ⟨by decide +kernel, by decide +kernel, by decide +kernel, vd_mt (List.mem_of_getElem? (i := 457) rfl) rfl, vd_mt (List.mem_of_getElem? (i := 29) (by decide +kernel)) rfl⟩
theorem wi_M_show : Cond.instanceMethod y_M_show ∈ vd_tbl := vd_mt (List.mem_of_getElem? (i := 456) (by decide +kernel)) rfl
theorem ws_M_show : Cond.selects y_M_show.cls y_M_show y_M_show ∈ vd_tbl := vd_mt (List.mem_of_getElem? (i := 14) (by decide +kernel)) rfl
def y_M_merge : MethodName := ⟨"VersionDepotModel", "merge", "(I)I"⟩
abbrev c_M_merge : ByteArray := prog_6_method_19_code
set_option maxRecDepth 100000 in
theorem mo_M_merge : (y_M_merge.cls ≠ "java/lang/invoke/MethodHandle" ∧ y_M_merge.cls ≠ "java/lang/invoke/VarHandle" ∧ (parseMethodDescriptor y_M_merge.desc).map (fun d => d.parameters.length) = some 1 ∧ Cond.code y_M_merge c_M_merge 5 (some .int) ∈ vd_tbl ∧ Cond.initialized y_M_merge.cls ∈ vd_tbl) := ⟨by decide +kernel, by decide +kernel, by decide +kernel, vd_mt (List.mem_of_getElem? (i := 461) rfl) rfl, vd_mt (List.mem_of_getElem? (i := 29) (by decide +kernel)) rfl⟩
theorem wi_M_merge : Cond.instanceMethod y_M_merge ∈ vd_tbl := vd_mt (List.mem_of_getElem? (i := 459) (by decide +kernel)) rfl
theorem ws_M_merge : Cond.selects y_M_merge.cls y_M_merge y_M_merge ∈ vd_tbl := vd_mt (List.mem_of_getElem? (i := 460) (by decide +kernel)) rfl
def y_M_shared : MethodName := ⟨"VersionDepotModel", "shared", "(II)I"⟩
abbrev c_M_shared : ByteArray := prog_6_method_17_code
set_option maxRecDepth 100000 in
theorem mo_M_shared : (y_M_shared.cls ≠ "java/lang/invoke/MethodHandle" ∧ y_M_shared.cls ≠ "java/lang/invoke/VarHandle" ∧ (parseMethodDescriptor y_M_shared.desc).map (fun d => d.parameters.length) = some 2 ∧ Cond.code y_M_shared c_M_shared 5 (some .int) ∈ vd_tbl ∧ Cond.initialized y_M_shared.cls ∈ vd_tbl) := ⟨by decide +kernel, by decide +kernel, by decide +kernel, vd_mt (List.mem_of_getElem? (i := 465) rfl) rfl, vd_mt (List.mem_of_getElem? (i := 29) (by decide +kernel)) rfl⟩
theorem wi_M_shared : Cond.instanceMethod y_M_shared ∈ vd_tbl := vd_mt (List.mem_of_getElem? (i := 464) (by decide +kernel)) rfl
theorem ws_M_shared : Cond.selects y_M_shared.cls y_M_shared y_M_shared ∈ vd_tbl := vd_mt (List.mem_of_getElem? (i := 15) (by decide +kernel)) rfl
def y_M_mark : MethodName := ⟨"VersionDepotModel", "mark", "(I)V"⟩
abbrev c_M_mark : ByteArray := prog_6_method_16_code
set_option maxRecDepth 100000 in
theorem mo_M_mark : (y_M_mark.cls ≠ "java/lang/invoke/MethodHandle" ∧ y_M_mark.cls ≠ "java/lang/invoke/VarHandle" ∧ (parseMethodDescriptor y_M_mark.desc).map (fun d => d.parameters.length) = some 1 ∧ Cond.code y_M_mark c_M_mark 3 (none) ∈ vd_tbl ∧ Cond.initialized y_M_mark.cls ∈ vd_tbl) := ⟨by decide +kernel, by decide +kernel, by decide +kernel, vd_mt (List.mem_of_getElem? (i := 469) rfl) rfl, vd_mt (List.mem_of_getElem? (i := 29) (by decide +kernel)) rfl⟩
theorem wi_M_mark : Cond.instanceMethod y_M_mark ∈ vd_tbl := vd_mt (List.mem_of_getElem? (i := 468) (by decide +kernel)) rfl
theorem ws_M_mark : Cond.selects y_M_mark.cls y_M_mark y_M_mark ∈ vd_tbl := vd_mt (List.mem_of_getElem? (i := 16) (by decide +kernel)) rfl
def y_M_mix : MethodName := ⟨"VersionDepotModel", "mix", "(IIIZ)I"⟩
abbrev c_M_mix : ByteArray := prog_6_method_18_code
set_option maxRecDepth 100000 in
theorem mo_M_mix : (y_M_mix.cls ≠ "java/lang/invoke/MethodHandle" ∧ y_M_mix.cls ≠ "java/lang/invoke/VarHandle" ∧ (parseMethodDescriptor y_M_mix.desc).map (fun d => d.parameters.length) = some 4 ∧ Cond.code y_M_mix c_M_mix 11 (some .int) ∈ vd_tbl ∧ Cond.initialized y_M_mix.cls ∈ vd_tbl) := ⟨by decide +kernel, by decide +kernel, by decide +kernel, vd_mt (List.mem_of_getElem? (i := 473) rfl) rfl, vd_mt (List.mem_of_getElem? (i := 29) (by decide +kernel)) rfl⟩
theorem wi_M_mix : Cond.instanceMethod y_M_mix ∈ vd_tbl := vd_mt (List.mem_of_getElem? (i := 472) (by decide +kernel)) rfl
theorem ws_M_mix : Cond.selects y_M_mix.cls y_M_mix y_M_mix ∈ vd_tbl := vd_mt (List.mem_of_getElem? (i := 17) (by decide +kernel)) rfl
def y_M_abort : MethodName := ⟨"VersionDepotModel", "abort", "()I"⟩
abbrev c_M_abort : ByteArray := prog_6_method_20_code
set_option maxRecDepth 100000 in
theorem mo_M_abort : (y_M_abort.cls ≠ "java/lang/invoke/MethodHandle" ∧ y_M_abort.cls ≠ "java/lang/invoke/VarHandle" ∧ (parseMethodDescriptor y_M_abort.desc).map (fun d => d.parameters.length) = some 0 ∧ Cond.code y_M_abort c_M_abort 2 (some .int) ∈ vd_tbl ∧ Cond.initialized y_M_abort.cls ∈ vd_tbl) := ⟨by decide +kernel, by decide +kernel, by decide +kernel, vd_mt (List.mem_of_getElem? (i := 477) rfl) rfl, vd_mt (List.mem_of_getElem? (i := 29) (by decide +kernel)) rfl⟩
theorem wi_M_abort : Cond.instanceMethod y_M_abort ∈ vd_tbl := vd_mt (List.mem_of_getElem? (i := 475) (by decide +kernel)) rfl
theorem ws_M_abort : Cond.selects y_M_abort.cls y_M_abort y_M_abort ∈ vd_tbl := vd_mt (List.mem_of_getElem? (i := 476) (by decide +kernel)) rfl
def y_M_pick : MethodName := ⟨"VersionDepotModel", "pick", "(I)I"⟩
abbrev c_M_pick : ByteArray := prog_6_method_21_code
set_option maxRecDepth 100000 in
theorem mo_M_pick : (y_M_pick.cls ≠ "java/lang/invoke/MethodHandle" ∧ y_M_pick.cls ≠ "java/lang/invoke/VarHandle" ∧ (parseMethodDescriptor y_M_pick.desc).map (fun d => d.parameters.length) = some 1 ∧ Cond.code y_M_pick c_M_pick 2 (some .int) ∈ vd_tbl ∧ Cond.initialized y_M_pick.cls ∈ vd_tbl) := ⟨by decide +kernel, by decide +kernel, by decide +kernel, vd_mt (List.mem_of_getElem? (i := 481) rfl) rfl, vd_mt (List.mem_of_getElem? (i := 29) (by decide +kernel)) rfl⟩
theorem wi_M_pick : Cond.instanceMethod y_M_pick ∈ vd_tbl := vd_mt (List.mem_of_getElem? (i := 479) (by decide +kernel)) rfl
theorem ws_M_pick : Cond.selects y_M_pick.cls y_M_pick y_M_pick ∈ vd_tbl := vd_mt (List.mem_of_getElem? (i := 480) (by decide +kernel)) rfl
def y_M_isStored : MethodName := ⟨"VersionDepotModel", "isStored", "(I)Z"⟩
abbrev c_M_isStored : ByteArray := prog_6_method_4_code
set_option maxRecDepth 100000 in
theorem mo_M_isStored : (y_M_isStored.cls ≠ "java/lang/invoke/MethodHandle" ∧ y_M_isStored.cls ≠ "java/lang/invoke/VarHandle" ∧ (parseMethodDescriptor y_M_isStored.desc).map (fun d => d.parameters.length) = some 1 ∧ Cond.code y_M_isStored c_M_isStored 2 (some .boolean) ∈ vd_tbl ∧ Cond.initialized y_M_isStored.cls ∈ vd_tbl) := ⟨by decide +kernel, by decide +kernel, by decide +kernel, vd_mt (List.mem_of_getElem? (i := 485) rfl) rfl, vd_mt (List.mem_of_getElem? (i := 29) (by decide +kernel)) rfl⟩
theorem wi_M_isStored : Cond.instanceMethod y_M_isStored ∈ vd_tbl := vd_mt (List.mem_of_getElem? (i := 484) (by decide +kernel)) rfl
theorem ws_M_isStored : Cond.selects y_M_isStored.cls y_M_isStored y_M_isStored ∈ vd_tbl := vd_mt (List.mem_of_getElem? (i := 18) (by decide +kernel)) rfl
def y_M_reset : MethodName := ⟨"VersionDepotModel", "reset", "(I)I"⟩
abbrev c_M_reset : ByteArray := prog_6_method_22_code
set_option maxRecDepth 100000 in
theorem mo_M_reset : (y_M_reset.cls ≠ "java/lang/invoke/MethodHandle" ∧ y_M_reset.cls ≠ "java/lang/invoke/VarHandle" ∧ (parseMethodDescriptor y_M_reset.desc).map (fun d => d.parameters.length) = some 1 ∧ Cond.code y_M_reset c_M_reset 2 (some .int) ∈ vd_tbl ∧ Cond.initialized y_M_reset.cls ∈ vd_tbl) := ⟨by decide +kernel, by decide +kernel, by decide +kernel, vd_mt (List.mem_of_getElem? (i := 489) rfl) rfl, vd_mt (List.mem_of_getElem? (i := 29) (by decide +kernel)) rfl⟩
theorem wi_M_reset : Cond.instanceMethod y_M_reset ∈ vd_tbl := vd_mt (List.mem_of_getElem? (i := 487) (by decide +kernel)) rfl
theorem ws_M_reset : Cond.selects y_M_reset.cls y_M_reset y_M_reset ∈ vd_tbl := vd_mt (List.mem_of_getElem? (i := 488) (by decide +kernel)) rfl
def y_M_remove : MethodName := ⟨"VersionDepotModel", "remove", "(I)I"⟩
abbrev c_M_remove : ByteArray := prog_6_method_23_code
set_option maxRecDepth 100000 in
theorem mo_M_remove : (y_M_remove.cls ≠ "java/lang/invoke/MethodHandle" ∧ y_M_remove.cls ≠ "java/lang/invoke/VarHandle" ∧ (parseMethodDescriptor y_M_remove.desc).map (fun d => d.parameters.length) = some 1 ∧ Cond.code y_M_remove c_M_remove 2 (some .int) ∈ vd_tbl ∧ Cond.initialized y_M_remove.cls ∈ vd_tbl) := ⟨by decide +kernel, by decide +kernel, by decide +kernel, vd_mt (List.mem_of_getElem? (i := 493) rfl) rfl, vd_mt (List.mem_of_getElem? (i := 29) (by decide +kernel)) rfl⟩
theorem wi_M_remove : Cond.instanceMethod y_M_remove ∈ vd_tbl := vd_mt (List.mem_of_getElem? (i := 491) (by decide +kernel)) rfl
theorem ws_M_remove : Cond.selects y_M_remove.cls y_M_remove y_M_remove ∈ vd_tbl := vd_mt (List.mem_of_getElem? (i := 492) (by decide +kernel)) rfl
def y_M_sweep : MethodName := ⟨"VersionDepotModel", "sweep", "()I"⟩
abbrev c_M_sweep : ByteArray := prog_6_method_25_code
set_option maxRecDepth 100000 in
theorem mo_M_sweep : (y_M_sweep.cls ≠ "java/lang/invoke/MethodHandle" ∧ y_M_sweep.cls ≠ "java/lang/invoke/VarHandle" ∧ (parseMethodDescriptor y_M_sweep.desc).map (fun d => d.parameters.length) = some 0 ∧ Cond.code y_M_sweep c_M_sweep 4 (some .int) ∈ vd_tbl ∧ Cond.initialized y_M_sweep.cls ∈ vd_tbl) := ⟨by decide +kernel, by decide +kernel, by decide +kernel, vd_mt (List.mem_of_getElem? (i := 497) rfl) rfl, vd_mt (List.mem_of_getElem? (i := 29) (by decide +kernel)) rfl⟩
theorem wi_M_sweep : Cond.instanceMethod y_M_sweep ∈ vd_tbl := vd_mt (List.mem_of_getElem? (i := 495) (by decide +kernel)) rfl
theorem ws_M_sweep : Cond.selects y_M_sweep.cls y_M_sweep y_M_sweep ∈ vd_tbl := vd_mt (List.mem_of_getElem? (i := 496) (by decide +kernel)) rfl
def y_M_objects : MethodName := ⟨"VersionDepotModel", "objects", "()I"⟩
abbrev c_M_objects : ByteArray := prog_6_method_24_code
set_option maxRecDepth 100000 in
theorem mo_M_objects : (y_M_objects.cls ≠ "java/lang/invoke/MethodHandle" ∧ y_M_objects.cls ≠ "java/lang/invoke/VarHandle" ∧ (parseMethodDescriptor y_M_objects.desc).map (fun d => d.parameters.length) = some 0 ∧ Cond.code y_M_objects c_M_objects 1 (some .int) ∈ vd_tbl ∧ Cond.initialized y_M_objects.cls ∈ vd_tbl) := ⟨by decide +kernel, by decide +kernel, by decide +kernel, vd_mt (List.mem_of_getElem? (i := 501) rfl) rfl, vd_mt (List.mem_of_getElem? (i := 29) (by decide +kernel)) rfl⟩
theorem wi_M_objects : Cond.instanceMethod y_M_objects ∈ vd_tbl := vd_mt (List.mem_of_getElem? (i := 500) (by decide +kernel)) rfl
theorem ws_M_objects : Cond.selects y_M_objects.cls y_M_objects y_M_objects ∈ vd_tbl := vd_mt (List.mem_of_getElem? (i := 19) (by decide +kernel)) rfl
def y_M_count : MethodName := ⟨"VersionDepotModel", "count", "(I)I"⟩
abbrev c_M_count : ByteArray := prog_6_method_37_code
set_option maxRecDepth 100000 in
theorem mo_M_count : (y_M_count.cls ≠ "java/lang/invoke/MethodHandle" ∧ y_M_count.cls ≠ "java/lang/invoke/VarHandle" ∧ (parseMethodDescriptor y_M_count.desc).map (fun d => d.parameters.length) = some 1 ∧ Cond.code y_M_count c_M_count 4 (some .int) ∈ vd_tbl ∧ Cond.initialized y_M_count.cls ∈ vd_tbl) := ⟨by decide +kernel, by decide +kernel, by decide +kernel, vd_mt (List.mem_of_getElem? (i := 505) rfl) rfl, vd_mt (List.mem_of_getElem? (i := 29) (by decide +kernel)) rfl⟩
theorem wi_M_count : Cond.instanceMethod y_M_count ∈ vd_tbl := vd_mt (List.mem_of_getElem? (i := 503) (by decide +kernel)) rfl
theorem ws_M_count : Cond.selects y_M_count.cls y_M_count y_M_count ∈ vd_tbl := vd_mt (List.mem_of_getElem? (i := 504) (by decide +kernel)) rfl
def y_M_folders : MethodName := ⟨"VersionDepotModel", "folders", "()I"⟩
abbrev c_M_folders : ByteArray := prog_6_method_34_code
set_option maxRecDepth 100000 in
theorem mo_M_folders : (y_M_folders.cls ≠ "java/lang/invoke/MethodHandle" ∧ y_M_folders.cls ≠ "java/lang/invoke/VarHandle" ∧ (parseMethodDescriptor y_M_folders.desc).map (fun d => d.parameters.length) = some 0 ∧ Cond.code y_M_folders c_M_folders 5 (some .int) ∈ vd_tbl ∧ Cond.initialized y_M_folders.cls ∈ vd_tbl) := ⟨by decide +kernel, by decide +kernel, by decide +kernel, vd_mt (List.mem_of_getElem? (i := 509) rfl) rfl, vd_mt (List.mem_of_getElem? (i := 29) (by decide +kernel)) rfl⟩
theorem wi_M_folders : Cond.instanceMethod y_M_folders ∈ vd_tbl := vd_mt (List.mem_of_getElem? (i := 508) (by decide +kernel)) rfl
theorem ws_M_folders : Cond.selects y_M_folders.cls y_M_folders y_M_folders ∈ vd_tbl := vd_mt (List.mem_of_getElem? (i := 20) (by decide +kernel)) rfl
def y_M_alike : MethodName := ⟨"VersionDepotModel", "alike", "(II)Z"⟩
abbrev c_M_alike : ByteArray := prog_6_method_33_code
set_option maxRecDepth 100000 in
theorem mo_M_alike : (y_M_alike.cls ≠ "java/lang/invoke/MethodHandle" ∧ y_M_alike.cls ≠ "java/lang/invoke/VarHandle" ∧ (parseMethodDescriptor y_M_alike.desc).map (fun d => d.parameters.length) = some 2 ∧ Cond.code y_M_alike c_M_alike 4 (some .boolean) ∈ vd_tbl ∧ Cond.initialized y_M_alike.cls ∈ vd_tbl) := ⟨by decide +kernel, by decide +kernel, by decide +kernel, vd_mt (List.mem_of_getElem? (i := 513) rfl) rfl, vd_mt (List.mem_of_getElem? (i := 29) (by decide +kernel)) rfl⟩
theorem wi_M_alike : Cond.instanceMethod y_M_alike ∈ vd_tbl := vd_mt (List.mem_of_getElem? (i := 512) (by decide +kernel)) rfl
theorem ws_M_alike : Cond.selects y_M_alike.cls y_M_alike y_M_alike ∈ vd_tbl := vd_mt (List.mem_of_getElem? (i := 21) (by decide +kernel)) rfl
def y_M_roots : MethodName := ⟨"VersionDepotModel", "roots", "()I"⟩
abbrev c_M_roots : ByteArray := prog_6_method_35_code
set_option maxRecDepth 100000 in
theorem mo_M_roots : (y_M_roots.cls ≠ "java/lang/invoke/MethodHandle" ∧ y_M_roots.cls ≠ "java/lang/invoke/VarHandle" ∧ (parseMethodDescriptor y_M_roots.desc).map (fun d => d.parameters.length) = some 0 ∧ Cond.code y_M_roots c_M_roots 5 (some .int) ∈ vd_tbl ∧ Cond.initialized y_M_roots.cls ∈ vd_tbl) := ⟨by decide +kernel, by decide +kernel, by decide +kernel, vd_mt (List.mem_of_getElem? (i := 517) rfl) rfl, vd_mt (List.mem_of_getElem? (i := 29) (by decide +kernel)) rfl⟩
theorem wi_M_roots : Cond.instanceMethod y_M_roots ∈ vd_tbl := vd_mt (List.mem_of_getElem? (i := 516) (by decide +kernel)) rfl
theorem ws_M_roots : Cond.selects y_M_roots.cls y_M_roots y_M_roots ∈ vd_tbl := vd_mt (List.mem_of_getElem? (i := 22) (by decide +kernel)) rfl
def y_M_changed : MethodName := ⟨"VersionDepotModel", "changed", "()I"⟩
abbrev c_M_changed : ByteArray := prog_6_method_36_code
set_option maxRecDepth 100000 in
theorem mo_M_changed : (y_M_changed.cls ≠ "java/lang/invoke/MethodHandle" ∧ y_M_changed.cls ≠ "java/lang/invoke/VarHandle" ∧ (parseMethodDescriptor y_M_changed.desc).map (fun d => d.parameters.length) = some 0 ∧ Cond.code y_M_changed c_M_changed 3 (some .int) ∈ vd_tbl ∧ Cond.initialized y_M_changed.cls ∈ vd_tbl) := ⟨by decide +kernel, by decide +kernel, by decide +kernel, vd_mt (List.mem_of_getElem? (i := 521) rfl) rfl, vd_mt (List.mem_of_getElem? (i := 29) (by decide +kernel)) rfl⟩
theorem wi_M_changed : Cond.instanceMethod y_M_changed ∈ vd_tbl := vd_mt (List.mem_of_getElem? (i := 520) (by decide +kernel)) rfl
theorem ws_M_changed : Cond.selects y_M_changed.cls y_M_changed y_M_changed ∈ vd_tbl := vd_mt (List.mem_of_getElem? (i := 23) (by decide +kernel)) rfl
def y_M_content : MethodName := ⟨"VersionDepotModel", "content", "(II)I"⟩
abbrev c_M_content : ByteArray := prog_6_method_26_code
set_option maxRecDepth 100000 in
theorem mo_M_content : (y_M_content.cls ≠ "java/lang/invoke/MethodHandle" ∧ y_M_content.cls ≠ "java/lang/invoke/VarHandle" ∧ (parseMethodDescriptor y_M_content.desc).map (fun d => d.parameters.length) = some 2 ∧ Cond.code y_M_content c_M_content 3 (some .int) ∈ vd_tbl ∧ Cond.initialized y_M_content.cls ∈ vd_tbl) := ⟨by decide +kernel, by decide +kernel, by decide +kernel, vd_mt (List.mem_of_getElem? (i := 525) rfl) rfl, vd_mt (List.mem_of_getElem? (i := 29) (by decide +kernel)) rfl⟩
theorem wi_M_content : Cond.instanceMethod y_M_content ∈ vd_tbl := vd_mt (List.mem_of_getElem? (i := 523) (by decide +kernel)) rfl
theorem ws_M_content : Cond.selects y_M_content.cls y_M_content y_M_content ∈ vd_tbl := vd_mt (List.mem_of_getElem? (i := 524) (by decide +kernel)) rfl
def y_M_at : MethodName := ⟨"VersionDepotModel", "at", "(II)I"⟩
abbrev c_M_at : ByteArray := prog_6_method_27_code
set_option maxRecDepth 100000 in
theorem mo_M_at : (y_M_at.cls ≠ "java/lang/invoke/MethodHandle" ∧ y_M_at.cls ≠ "java/lang/invoke/VarHandle" ∧ (parseMethodDescriptor y_M_at.desc).map (fun d => d.parameters.length) = some 2 ∧ Cond.code y_M_at c_M_at 3 (some .int) ∈ vd_tbl ∧ Cond.initialized y_M_at.cls ∈ vd_tbl) := ⟨by decide +kernel, by decide +kernel, by decide +kernel, vd_mt (List.mem_of_getElem? (i := 529) rfl) rfl, vd_mt (List.mem_of_getElem? (i := 29) (by decide +kernel)) rfl⟩
theorem wi_M_at : Cond.instanceMethod y_M_at ∈ vd_tbl := vd_mt (List.mem_of_getElem? (i := 527) (by decide +kernel)) rfl
theorem ws_M_at : Cond.selects y_M_at.cls y_M_at y_M_at ∈ vd_tbl := vd_mt (List.mem_of_getElem? (i := 528) (by decide +kernel)) rfl
def y_M_parent : MethodName := ⟨"VersionDepotModel", "parent", "(II)I"⟩
abbrev c_M_parent : ByteArray := prog_6_method_28_code
set_option maxRecDepth 100000 in
theorem mo_M_parent : (y_M_parent.cls ≠ "java/lang/invoke/MethodHandle" ∧ y_M_parent.cls ≠ "java/lang/invoke/VarHandle" ∧ (parseMethodDescriptor y_M_parent.desc).map (fun d => d.parameters.length) = some 2 ∧ Cond.code y_M_parent c_M_parent 3 (some .int) ∈ vd_tbl ∧ Cond.initialized y_M_parent.cls ∈ vd_tbl) := ⟨by decide +kernel, by decide +kernel, by decide +kernel, vd_mt (List.mem_of_getElem? (i := 533) rfl) rfl, vd_mt (List.mem_of_getElem? (i := 29) (by decide +kernel)) rfl⟩
theorem wi_M_parent : Cond.instanceMethod y_M_parent ∈ vd_tbl := vd_mt (List.mem_of_getElem? (i := 531) (by decide +kernel)) rfl
theorem ws_M_parent : Cond.selects y_M_parent.cls y_M_parent y_M_parent ∈ vd_tbl := vd_mt (List.mem_of_getElem? (i := 532) (by decide +kernel)) rfl
def y_M_branchAt : MethodName := ⟨"VersionDepotModel", "branchAt", "(I)I"⟩
abbrev c_M_branchAt : ByteArray := prog_6_method_29_code
set_option maxRecDepth 100000 in
theorem mo_M_branchAt : (y_M_branchAt.cls ≠ "java/lang/invoke/MethodHandle" ∧ y_M_branchAt.cls ≠ "java/lang/invoke/VarHandle" ∧ (parseMethodDescriptor y_M_branchAt.desc).map (fun d => d.parameters.length) = some 1 ∧ Cond.code y_M_branchAt c_M_branchAt 2 (some .int) ∈ vd_tbl ∧ Cond.initialized y_M_branchAt.cls ∈ vd_tbl) := ⟨by decide +kernel, by decide +kernel, by decide +kernel, vd_mt (List.mem_of_getElem? (i := 537) rfl) rfl, vd_mt (List.mem_of_getElem? (i := 29) (by decide +kernel)) rfl⟩
theorem wi_M_branchAt : Cond.instanceMethod y_M_branchAt ∈ vd_tbl := vd_mt (List.mem_of_getElem? (i := 535) (by decide +kernel)) rfl
theorem ws_M_branchAt : Cond.selects y_M_branchAt.cls y_M_branchAt y_M_branchAt ∈ vd_tbl := vd_mt (List.mem_of_getElem? (i := 536) (by decide +kernel)) rfl
def y_M_common : MethodName := ⟨"VersionDepotModel", "common", "(II)I"⟩
abbrev c_M_common : ByteArray := prog_6_method_30_code
set_option maxRecDepth 100000 in
theorem mo_M_common : (y_M_common.cls ≠ "java/lang/invoke/MethodHandle" ∧ y_M_common.cls ≠ "java/lang/invoke/VarHandle" ∧ (parseMethodDescriptor y_M_common.desc).map (fun d => d.parameters.length) = some 2 ∧ Cond.code y_M_common c_M_common 3 (some .int) ∈ vd_tbl ∧ Cond.initialized y_M_common.cls ∈ vd_tbl) := ⟨by decide +kernel, by decide +kernel, by decide +kernel, vd_mt (List.mem_of_getElem? (i := 541) rfl) rfl, vd_mt (List.mem_of_getElem? (i := 29) (by decide +kernel)) rfl⟩
theorem wi_M_common : Cond.instanceMethod y_M_common ∈ vd_tbl := vd_mt (List.mem_of_getElem? (i := 539) (by decide +kernel)) rfl
theorem ws_M_common : Cond.selects y_M_common.cls y_M_common y_M_common ∈ vd_tbl := vd_mt (List.mem_of_getElem? (i := 540) (by decide +kernel)) rfl
def y_M_differ : MethodName := ⟨"VersionDepotModel", "differ", "(II)I"⟩
abbrev c_M_differ : ByteArray := prog_6_method_31_code
set_option maxRecDepth 100000 in
theorem mo_M_differ : (y_M_differ.cls ≠ "java/lang/invoke/MethodHandle" ∧ y_M_differ.cls ≠ "java/lang/invoke/VarHandle" ∧ (parseMethodDescriptor y_M_differ.desc).map (fun d => d.parameters.length) = some 2 ∧ Cond.code y_M_differ c_M_differ 5 (some .int) ∈ vd_tbl ∧ Cond.initialized y_M_differ.cls ∈ vd_tbl) := ⟨by decide +kernel, by decide +kernel, by decide +kernel, vd_mt (List.mem_of_getElem? (i := 545) rfl) rfl, vd_mt (List.mem_of_getElem? (i := 29) (by decide +kernel)) rfl⟩
theorem wi_M_differ : Cond.instanceMethod y_M_differ ∈ vd_tbl := vd_mt (List.mem_of_getElem? (i := 543) (by decide +kernel)) rfl
theorem ws_M_differ : Cond.selects y_M_differ.cls y_M_differ y_M_differ ∈ vd_tbl := vd_mt (List.mem_of_getElem? (i := 544) (by decide +kernel)) rfl
def y_M_clashing : MethodName := ⟨"VersionDepotModel", "clashing", "(I)Z"⟩
abbrev c_M_clashing : ByteArray := prog_6_method_32_code
set_option maxRecDepth 100000 in
theorem mo_M_clashing : (y_M_clashing.cls ≠ "java/lang/invoke/MethodHandle" ∧ y_M_clashing.cls ≠ "java/lang/invoke/VarHandle" ∧ (parseMethodDescriptor y_M_clashing.desc).map (fun d => d.parameters.length) = some 1 ∧ Cond.code y_M_clashing c_M_clashing 2 (some .boolean) ∈ vd_tbl ∧ Cond.initialized y_M_clashing.cls ∈ vd_tbl) := ⟨by decide +kernel, by decide +kernel, by decide +kernel, vd_mt (List.mem_of_getElem? (i := 549) rfl) rfl, vd_mt (List.mem_of_getElem? (i := 29) (by decide +kernel)) rfl⟩
theorem wi_M_clashing : Cond.instanceMethod y_M_clashing ∈ vd_tbl := vd_mt (List.mem_of_getElem? (i := 547) (by decide +kernel)) rfl
theorem ws_M_clashing : Cond.selects y_M_clashing.cls y_M_clashing y_M_clashing ∈ vd_tbl := vd_mt (List.mem_of_getElem? (i := 548) (by decide +kernel)) rfl
theorem lk_B_11 : Cond.fieldLink "VersionDepot$Blobs" 11 "VersionDepot$Blobs" "bits" "[J" ∈ vd_tbl := vd_mt (List.mem_of_getElem? (i := 53) (by decide +kernel)) rfl
theorem lk_W_9 : Cond.fieldLink "VersionDepot$Rows" 9 "VersionDepot$Rows" "numbers" "[I" ∈ vd_tbl := vd_mt (List.mem_of_getElem? (i := 64) (by decide +kernel)) rfl
theorem lk_W_15 : Cond.fieldLink "VersionDepot$Rows" 15 "VersionDepot$Rows" "stored" "[Z" ∈ vd_tbl := vd_mt (List.mem_of_getElem? (i := 65) (by decide +kernel)) rfl
theorem lk_W_19 : Cond.fieldLink "VersionDepot$Rows" 19 "VersionDepot$Rows" "last" "I" ∈ vd_tbl := vd_mt (List.mem_of_getElem? (i := 66) (by decide +kernel)) rfl
theorem lk_S_12 : Cond.fieldLink "VersionDepot$Store" 12 "VersionDepot$Store" "blobs" "LVersionDepot$Blobs;" ∈ vd_tbl := vd_mt (List.mem_of_getElem? (i := 76) (by decide +kernel)) rfl
theorem lk_D_33 : Cond.fieldLink "VersionDepot" 33 "VersionDepot$Store" "blobs" "LVersionDepot$Blobs;" ∈ vd_tbl := vd_mt (List.mem_of_getElem? (i := 77) (by decide +kernel)) rfl
theorem lk_S_23 : Cond.fieldLink "VersionDepot$Store" 23 "VersionDepot$Store" "folders" "LVersionDepot$Rows;" ∈ vd_tbl := vd_mt (List.mem_of_getElem? (i := 78) (by decide +kernel)) rfl
theorem lk_D_115 : Cond.fieldLink "VersionDepot" 115 "VersionDepot$Store" "folders" "LVersionDepot$Rows;" ∈ vd_tbl := vd_mt (List.mem_of_getElem? (i := 79) (by decide +kernel)) rfl
theorem lk_S_27 : Cond.fieldLink "VersionDepot$Store" 27 "VersionDepot$Store" "roots" "LVersionDepot$Rows;" ∈ vd_tbl := vd_mt (List.mem_of_getElem? (i := 80) (by decide +kernel)) rfl
theorem lk_D_122 : Cond.fieldLink "VersionDepot" 122 "VersionDepot$Store" "roots" "LVersionDepot$Rows;" ∈ vd_tbl := vd_mt (List.mem_of_getElem? (i := 81) (by decide +kernel)) rfl
theorem lk_S_30 : Cond.fieldLink "VersionDepot$Store" 30 "VersionDepot$Store" "rootOf" "[I" ∈ vd_tbl := vd_mt (List.mem_of_getElem? (i := 82) (by decide +kernel)) rfl
theorem lk_S_34 : Cond.fieldLink "VersionDepot$Store" 34 "VersionDepot$Store" "firstParents" "[I" ∈ vd_tbl := vd_mt (List.mem_of_getElem? (i := 83) (by decide +kernel)) rfl
theorem lk_S_37 : Cond.fieldLink "VersionDepot$Store" 37 "VersionDepot$Store" "secondParents" "[I" ∈ vd_tbl := vd_mt (List.mem_of_getElem? (i := 84) (by decide +kernel)) rfl
theorem lk_S_40 : Cond.fieldLink "VersionDepot$Store" 40 "VersionDepot$Store" "ancestors" "[I" ∈ vd_tbl := vd_mt (List.mem_of_getElem? (i := 85) (by decide +kernel)) rfl
theorem lk_S_43 : Cond.fieldLink "VersionDepot$Store" 43 "VersionDepot$Store" "folderRow" "[I" ∈ vd_tbl := vd_mt (List.mem_of_getElem? (i := 86) (by decide +kernel)) rfl
theorem lk_S_46 : Cond.fieldLink "VersionDepot$Store" 46 "VersionDepot$Store" "made" "I" ∈ vd_tbl := vd_mt (List.mem_of_getElem? (i := 87) (by decide +kernel)) rfl
theorem lk_D_128 : Cond.fieldLink "VersionDepot" 128 "VersionDepot$Store" "made" "I" ∈ vd_tbl := vd_mt (List.mem_of_getElem? (i := 88) (by decide +kernel)) rfl
theorem lk_S_50 : Cond.fieldLink "VersionDepot$Store" 50 "VersionDepot$Store" "stored" "I" ∈ vd_tbl := vd_mt (List.mem_of_getElem? (i := 89) (by decide +kernel)) rfl
theorem lk_D_10 : Cond.fieldLink "VersionDepot" 10 "VersionDepot" "store" "LVersionDepot$Store;" ∈ vd_tbl := vd_mt (List.mem_of_getElem? (i := 111) (by decide +kernel)) rfl
theorem lk_D_16 : Cond.fieldLink "VersionDepot" 16 "VersionDepot" "work" "[I" ∈ vd_tbl := vd_mt (List.mem_of_getElem? (i := 112) (by decide +kernel)) rfl
theorem lk_D_20 : Cond.fieldLink "VersionDepot" 20 "VersionDepot" "index" "[I" ∈ vd_tbl := vd_mt (List.mem_of_getElem? (i := 113) (by decide +kernel)) rfl
theorem lk_D_23 : Cond.fieldLink "VersionDepot" 23 "VersionDepot" "mixture" "[I" ∈ vd_tbl := vd_mt (List.mem_of_getElem? (i := 114) (by decide +kernel)) rfl
theorem lk_D_26 : Cond.fieldLink "VersionDepot" 26 "VersionDepot" "tips" "[I" ∈ vd_tbl := vd_mt (List.mem_of_getElem? (i := 115) (by decide +kernel)) rfl
theorem lk_D_58 : Cond.fieldLink "VersionDepot" 58 "VersionDepot" "head" "I" ∈ vd_tbl := vd_mt (List.mem_of_getElem? (i := 116) (by decide +kernel)) rfl
theorem lk_D_47 : Cond.fieldLink "VersionDepot" 47 "VersionDepot" "merging" "I" ∈ vd_tbl := vd_mt (List.mem_of_getElem? (i := 117) (by decide +kernel)) rfl
theorem lk_D_43 : Cond.fieldLink "VersionDepot" 43 "VersionDepot" "clashes" "I" ∈ vd_tbl := vd_mt (List.mem_of_getElem? (i := 118) (by decide +kernel)) rfl
theorem lk_M_7 : Cond.fieldLink "VersionDepotModel" 7 "VersionDepotModel" "content" "[I" ∈ vd_tbl := vd_mt (List.mem_of_getElem? (i := 370) (by decide +kernel)) rfl
theorem lk_M_13 : Cond.fieldLink "VersionDepotModel" 13 "VersionDepotModel" "stored" "[Z" ∈ vd_tbl := vd_mt (List.mem_of_getElem? (i := 371) (by decide +kernel)) rfl
theorem lk_M_17 : Cond.fieldLink "VersionDepotModel" 17 "VersionDepotModel" "first" "[I" ∈ vd_tbl := vd_mt (List.mem_of_getElem? (i := 372) (by decide +kernel)) rfl
theorem lk_M_20 : Cond.fieldLink "VersionDepotModel" 20 "VersionDepotModel" "second" "[I" ∈ vd_tbl := vd_mt (List.mem_of_getElem? (i := 373) (by decide +kernel)) rfl
theorem lk_M_58 : Cond.fieldLink "VersionDepotModel" 58 "VersionDepotModel" "made" "I" ∈ vd_tbl := vd_mt (List.mem_of_getElem? (i := 374) (by decide +kernel)) rfl
theorem lk_M_23 : Cond.fieldLink "VersionDepotModel" 23 "VersionDepotModel" "branch" "[I" ∈ vd_tbl := vd_mt (List.mem_of_getElem? (i := 375) (by decide +kernel)) rfl
theorem lk_M_38 : Cond.fieldLink "VersionDepotModel" 38 "VersionDepotModel" "head" "I" ∈ vd_tbl := vd_mt (List.mem_of_getElem? (i := 376) (by decide +kernel)) rfl
theorem lk_M_64 : Cond.fieldLink "VersionDepotModel" 64 "VersionDepotModel" "merging" "I" ∈ vd_tbl := vd_mt (List.mem_of_getElem? (i := 377) (by decide +kernel)) rfl
theorem lk_M_26 : Cond.fieldLink "VersionDepotModel" 26 "VersionDepotModel" "clashing" "[Z" ∈ vd_tbl := vd_mt (List.mem_of_getElem? (i := 378) (by decide +kernel)) rfl
theorem lk_M_29 : Cond.fieldLink "VersionDepotModel" 29 "VersionDepotModel" "blob" "[Z" ∈ vd_tbl := vd_mt (List.mem_of_getElem? (i := 379) (by decide +kernel)) rfl
theorem lk_M_32 : Cond.fieldLink "VersionDepotModel" 32 "VersionDepotModel" "marked" "[Z" ∈ vd_tbl := vd_mt (List.mem_of_getElem? (i := 380) (by decide +kernel)) rfl
theorem lk_M_35 : Cond.fieldLink "VersionDepotModel" 35 "VersionDepotModel" "other" "[Z" ∈ vd_tbl := vd_mt (List.mem_of_getElem? (i := 381) (by decide +kernel)) rfl
theorem ml_L_9 : Cond.methodLink "VersionDepotLaw" 9 y_D_init ∈ vd_tbl := vd_mt (List.mem_of_getElem? (i := 35) (by decide +kernel)) rfl
theorem ml_D_1 : Cond.methodLink "VersionDepot" 1 objectInit ∈ vd_tbl := vd_mt (List.mem_of_getElem? (i := 38) (by decide +kernel)) rfl
theorem ml_D_9 : Cond.methodLink "VersionDepot" 9 y_S_init ∈ vd_tbl := vd_mt (List.mem_of_getElem? (i := 43) (by decide +kernel)) rfl
theorem ml_S_3 : Cond.methodLink "VersionDepot$Store" 3 objectInit ∈ vd_tbl := vd_mt (List.mem_of_getElem? (i := 46) (by decide +kernel)) rfl
theorem ml_S_11 : Cond.methodLink "VersionDepot$Store" 11 y_B_init ∈ vd_tbl := vd_mt (List.mem_of_getElem? (i := 49) (by decide +kernel)) rfl
theorem ml_B_3 : Cond.methodLink "VersionDepot$Blobs" 3 objectInit ∈ vd_tbl := vd_mt (List.mem_of_getElem? (i := 52) (by decide +kernel)) rfl
theorem ml_S_20 : Cond.methodLink "VersionDepot$Store" 20 y_W_init ∈ vd_tbl := vd_mt (List.mem_of_getElem? (i := 60) (by decide +kernel)) rfl
theorem ml_W_3 : Cond.methodLink "VersionDepot$Rows" 3 objectInit ∈ vd_tbl := vd_mt (List.mem_of_getElem? (i := 63) (by decide +kernel)) rfl
theorem ml_L_13 : Cond.methodLink "VersionDepotLaw" 13 y_D_write ∈ vd_tbl := vd_mt (List.mem_of_getElem? (i := 136) (by decide +kernel)) rfl
theorem ml_D_29 : Cond.methodLink "VersionDepot" 29 y_D_isFile ∈ vd_tbl := vd_mt (List.mem_of_getElem? (i := 140) (by decide +kernel)) rfl
theorem ml_L_18 : Cond.methodLink "VersionDepotLaw" 18 y_D_stage ∈ vd_tbl := vd_mt (List.mem_of_getElem? (i := 143) (by decide +kernel)) rfl
theorem ml_D_37 : Cond.methodLink "VersionDepot" 37 y_B_keep ∈ vd_tbl := vd_mt (List.mem_of_getElem? (i := 147) (by decide +kernel)) rfl
theorem ml_L_23 : Cond.methodLink "VersionDepotLaw" 23 y_D_commit ∈ vd_tbl := vd_mt (List.mem_of_getElem? (i := 151) (by decide +kernel)) rfl
theorem ml_D_50 : Cond.methodLink "VersionDepot" 50 y_D_isAsHere ∈ vd_tbl := vd_mt (List.mem_of_getElem? (i := 155) (by decide +kernel)) rfl
theorem ml_D_61 : Cond.methodLink "VersionDepot" 61 y_D_here ∈ vd_tbl := vd_mt (List.mem_of_getElem? (i := 159) (by decide +kernel)) rfl
theorem ml_D_108 : Cond.methodLink "VersionDepot" 108 y_S_contentOf ∈ vd_tbl := vd_mt (List.mem_of_getElem? (i := 163) (by decide +kernel)) rfl
theorem ml_S_67 : Cond.methodLink "VersionDepot$Store" 67 y_W_get ∈ vd_tbl := vd_mt (List.mem_of_getElem? (i := 167) (by decide +kernel)) rfl
theorem ml_D_54 : Cond.methodLink "VersionDepot" 54 y_S_isFull ∈ vd_tbl := vd_mt (List.mem_of_getElem? (i := 171) (by decide +kernel)) rfl
theorem ml_D_65 : Cond.methodLink "VersionDepot" 65 y_S_make ∈ vd_tbl := vd_mt (List.mem_of_getElem? (i := 175) (by decide +kernel)) rfl
theorem ml_S_71 : Cond.methodLink "VersionDepot$Store" 71 y_S_keepRoot ∈ vd_tbl := vd_mt (List.mem_of_getElem? (i := 179) (by decide +kernel)) rfl
theorem ml_S_75 : Cond.methodLink "VersionDepot$Store" 75 y_S_keepFolder ∈ vd_tbl := vd_mt (List.mem_of_getElem? (i := 183) (by decide +kernel)) rfl
theorem ml_S_82 : Cond.methodLink "VersionDepot$Store" 82 y_B_keep ∈ vd_tbl := vd_mt (List.mem_of_getElem? (i := 187) (by decide +kernel)) rfl
theorem ml_S_79 : Cond.methodLink "VersionDepot$Store" 79 y_W_keep ∈ vd_tbl := vd_mt (List.mem_of_getElem? (i := 188) (by decide +kernel)) rfl
theorem ml_W_23 : Cond.methodLink "VersionDepot$Rows" 23 y_W_isAlike ∈ vd_tbl := vd_mt (List.mem_of_getElem? (i := 192) (by decide +kernel)) rfl
theorem ml_W_27 : Cond.methodLink "VersionDepot$Rows" 27 arraycopyName ∈ vd_tbl := vd_mt (List.mem_of_getElem? (i := 196) (by decide +kernel)) rfl
theorem ml_L_28 : Cond.methodLink "VersionDepotLaw" 28 y_D_branch ∈ vd_tbl := vd_mt (List.mem_of_getElem? (i := 199) (by decide +kernel)) rfl
theorem ml_D_69 : Cond.methodLink "VersionDepot" 69 y_D_isBranch ∈ vd_tbl := vd_mt (List.mem_of_getElem? (i := 203) (by decide +kernel)) rfl
theorem ml_L_32 : Cond.methodLink "VersionDepotLaw" 32 y_D_turn ∈ vd_tbl := vd_mt (List.mem_of_getElem? (i := 206) (by decide +kernel)) rfl
theorem ml_D_72 : Cond.methodLink "VersionDepot" 72 y_D_isThere ∈ vd_tbl := vd_mt (List.mem_of_getElem? (i := 210) (by decide +kernel)) rfl
theorem ml_D_75 : Cond.methodLink "VersionDepot" 75 y_D_isTidy ∈ vd_tbl := vd_mt (List.mem_of_getElem? (i := 214) (by decide +kernel)) rfl
theorem ml_D_136 : Cond.methodLink "VersionDepot" 136 y_D_unstaged ∈ vd_tbl := vd_mt (List.mem_of_getElem? (i := 218) (by decide +kernel)) rfl
theorem ml_D_78 : Cond.methodLink "VersionDepot" 78 y_D_moveTo ∈ vd_tbl := vd_mt (List.mem_of_getElem? (i := 222) (by decide +kernel)) rfl
theorem ml_L_36 : Cond.methodLink "VersionDepotLaw" 36 y_D_merge ∈ vd_tbl := vd_mt (List.mem_of_getElem? (i := 226) (by decide +kernel)) rfl
theorem ml_D_82 : Cond.methodLink "VersionDepot" 82 y_S_leadsTo ∈ vd_tbl := vd_mt (List.mem_of_getElem? (i := 230) (by decide +kernel)) rfl
theorem ml_D_86 : Cond.methodLink "VersionDepot" 86 y_D_mergeApart ∈ vd_tbl := vd_mt (List.mem_of_getElem? (i := 234) (by decide +kernel)) rfl
theorem ml_D_111 : Cond.methodLink "VersionDepot" 111 y_S_meetingOf ∈ vd_tbl := vd_mt (List.mem_of_getElem? (i := 238) (by decide +kernel)) rfl
theorem ml_D_96 : Cond.methodLink "VersionDepot" 96 y_D_mixHereWith ∈ vd_tbl := vd_mt (List.mem_of_getElem? (i := 242) (by decide +kernel)) rfl
theorem ml_D_139 : Cond.methodLink "VersionDepot" 139 arraycopyName ∈ vd_tbl := vd_mt (List.mem_of_getElem? (i := 246) (by decide +kernel)) rfl
theorem ml_L_40 : Cond.methodLink "VersionDepotLaw" 40 y_D_abort ∈ vd_tbl := vd_mt (List.mem_of_getElem? (i := 247) (by decide +kernel)) rfl
theorem ml_L_44 : Cond.methodLink "VersionDepotLaw" 44 y_D_pick ∈ vd_tbl := vd_mt (List.mem_of_getElem? (i := 251) (by decide +kernel)) rfl
theorem ml_D_89 : Cond.methodLink "VersionDepot" 89 y_S_holds ∈ vd_tbl := vd_mt (List.mem_of_getElem? (i := 255) (by decide +kernel)) rfl
theorem ml_D_92 : Cond.methodLink "VersionDepot" 92 y_S_parentOf ∈ vd_tbl := vd_mt (List.mem_of_getElem? (i := 259) (by decide +kernel)) rfl
theorem ml_L_48 : Cond.methodLink "VersionDepotLaw" 48 y_D_reset ∈ vd_tbl := vd_mt (List.mem_of_getElem? (i := 263) (by decide +kernel)) rfl
theorem ml_L_52 : Cond.methodLink "VersionDepotLaw" 52 y_D_remove ∈ vd_tbl := vd_mt (List.mem_of_getElem? (i := 267) (by decide +kernel)) rfl
theorem ml_L_56 : Cond.methodLink "VersionDepotLaw" 56 y_D_sweep ∈ vd_tbl := vd_mt (List.mem_of_getElem? (i := 271) (by decide +kernel)) rfl
theorem ml_D_99 : Cond.methodLink "VersionDepot" 99 y_S_size ∈ vd_tbl := vd_mt (List.mem_of_getElem? (i := 275) (by decide +kernel)) rfl
theorem ml_S_59 : Cond.methodLink "VersionDepot$Store" 59 y_B_size ∈ vd_tbl := vd_mt (List.mem_of_getElem? (i := 279) (by decide +kernel)) rfl
theorem ml_B_15 : Cond.methodLink "VersionDepot$Blobs" 15 y_J_bitCount ∈ vd_tbl := vd_mt (List.mem_of_getElem? (i := 283) (by decide +kernel)) rfl
theorem ml_S_63 : Cond.methodLink "VersionDepot$Store" 63 y_W_size ∈ vd_tbl := vd_mt (List.mem_of_getElem? (i := 289) (by decide +kernel)) rfl
theorem ml_S_64 : Cond.methodLink "VersionDepot$Store" 64 y_S_commits ∈ vd_tbl := vd_mt (List.mem_of_getElem? (i := 293) (by decide +kernel)) rfl
theorem ml_S_53 : Cond.methodLink "VersionDepot$Store" 53 y_I_bitCount ∈ vd_tbl := vd_mt (List.mem_of_getElem? (i := 297) (by decide +kernel)) rfl
theorem ml_D_102 : Cond.methodLink "VersionDepot" 102 y_S_ancestorsOf ∈ vd_tbl := vd_mt (List.mem_of_getElem? (i := 303) (by decide +kernel)) rfl
theorem ml_D_105 : Cond.methodLink "VersionDepot" 105 y_S_keepOnly ∈ vd_tbl := vd_mt (List.mem_of_getElem? (i := 307) (by decide +kernel)) rfl
theorem ml_S_84 : Cond.methodLink "VersionDepot$Store" 84 y_B_clear ∈ vd_tbl := vd_mt (List.mem_of_getElem? (i := 311) (by decide +kernel)) rfl
theorem ml_S_87 : Cond.methodLink "VersionDepot$Store" 87 y_W_clear ∈ vd_tbl := vd_mt (List.mem_of_getElem? (i := 315) (by decide +kernel)) rfl
theorem ml_S_88 : Cond.methodLink "VersionDepot$Store" 88 y_S_holds ∈ vd_tbl := vd_mt (List.mem_of_getElem? (i := 319) (by decide +kernel)) rfl
theorem ml_S_92 : Cond.methodLink "VersionDepot$Store" 92 y_S_keepAgain ∈ vd_tbl := vd_mt (List.mem_of_getElem? (i := 320) (by decide +kernel)) rfl
theorem ml_S_95 : Cond.methodLink "VersionDepot$Store" 95 y_W_keepAgain ∈ vd_tbl := vd_mt (List.mem_of_getElem? (i := 324) (by decide +kernel)) rfl
theorem ml_L_60 : Cond.methodLink "VersionDepotLaw" 60 y_D_content ∈ vd_tbl := vd_mt (List.mem_of_getElem? (i := 328) (by decide +kernel)) rfl
theorem ml_L_64 : Cond.methodLink "VersionDepotLaw" 64 y_D_at ∈ vd_tbl := vd_mt (List.mem_of_getElem? (i := 332) (by decide +kernel)) rfl
theorem ml_L_68 : Cond.methodLink "VersionDepotLaw" 68 y_D_parent ∈ vd_tbl := vd_mt (List.mem_of_getElem? (i := 336) (by decide +kernel)) rfl
theorem ml_L_72 : Cond.methodLink "VersionDepotLaw" 72 y_D_branchAt ∈ vd_tbl := vd_mt (List.mem_of_getElem? (i := 340) (by decide +kernel)) rfl
theorem ml_L_76 : Cond.methodLink "VersionDepotLaw" 76 y_D_common ∈ vd_tbl := vd_mt (List.mem_of_getElem? (i := 344) (by decide +kernel)) rfl
theorem ml_L_80 : Cond.methodLink "VersionDepotLaw" 80 y_D_differ ∈ vd_tbl := vd_mt (List.mem_of_getElem? (i := 348) (by decide +kernel)) rfl
theorem ml_L_84 : Cond.methodLink "VersionDepotLaw" 84 y_D_clashing ∈ vd_tbl := vd_mt (List.mem_of_getElem? (i := 352) (by decide +kernel)) rfl
theorem ml_L_89 : Cond.methodLink "VersionDepotLaw" 89 y_D_count ∈ vd_tbl := vd_mt (List.mem_of_getElem? (i := 356) (by decide +kernel)) rfl
theorem ml_D_114 : Cond.methodLink "VersionDepot" 114 y_B_size ∈ vd_tbl := vd_mt (List.mem_of_getElem? (i := 360) (by decide +kernel)) rfl
theorem ml_D_119 : Cond.methodLink "VersionDepot" 119 y_W_size ∈ vd_tbl := vd_mt (List.mem_of_getElem? (i := 361) (by decide +kernel)) rfl
theorem ml_D_125 : Cond.methodLink "VersionDepot" 125 y_S_commits ∈ vd_tbl := vd_mt (List.mem_of_getElem? (i := 362) (by decide +kernel)) rfl
theorem ml_D_131 : Cond.methodLink "VersionDepot" 131 y_I_bitCount ∈ vd_tbl := vd_mt (List.mem_of_getElem? (i := 363) (by decide +kernel)) rfl
theorem ml_L_12 : Cond.methodLink "VersionDepotLaw" 12 y_M_init ∈ vd_tbl := vd_mt (List.mem_of_getElem? (i := 366) (by decide +kernel)) rfl
theorem ml_M_1 : Cond.methodLink "VersionDepotModel" 1 objectInit ∈ vd_tbl := vd_mt (List.mem_of_getElem? (i := 369) (by decide +kernel)) rfl
theorem ml_L_17 : Cond.methodLink "VersionDepotLaw" 17 y_M_write ∈ vd_tbl := vd_mt (List.mem_of_getElem? (i := 407) (by decide +kernel)) rfl
theorem ml_M_42 : Cond.methodLink "VersionDepotModel" 42 y_M_in ∈ vd_tbl := vd_mt (List.mem_of_getElem? (i := 411) (by decide +kernel)) rfl
theorem ml_L_22 : Cond.methodLink "VersionDepotLaw" 22 y_M_stage ∈ vd_tbl := vd_mt (List.mem_of_getElem? (i := 414) (by decide +kernel)) rfl
theorem ml_L_27 : Cond.methodLink "VersionDepotLaw" 27 y_M_commit ∈ vd_tbl := vd_mt (List.mem_of_getElem? (i := 418) (by decide +kernel)) rfl
theorem ml_M_61 : Cond.methodLink "VersionDepotModel" 61 y_M_clashes ∈ vd_tbl := vd_mt (List.mem_of_getElem? (i := 422) (by decide +kernel)) rfl
theorem ml_M_54 : Cond.methodLink "VersionDepotModel" 54 y_M_here ∈ vd_tbl := vd_mt (List.mem_of_getElem? (i := 426) (by decide +kernel)) rfl
theorem ml_M_50 : Cond.methodLink "VersionDepotModel" 50 y_M_same ∈ vd_tbl := vd_mt (List.mem_of_getElem? (i := 430) (by decide +kernel)) rfl
theorem ml_M_67 : Cond.methodLink "VersionDepotModel" 67 y_M_make ∈ vd_tbl := vd_mt (List.mem_of_getElem? (i := 434) (by decide +kernel)) rfl
theorem ml_M_46 : Cond.methodLink "VersionDepotModel" 46 y_M_copy ∈ vd_tbl := vd_mt (List.mem_of_getElem? (i := 438) (by decide +kernel)) rfl
theorem ml_L_31 : Cond.methodLink "VersionDepotLaw" 31 y_M_branch ∈ vd_tbl := vd_mt (List.mem_of_getElem? (i := 442) (by decide +kernel)) rfl
theorem ml_L_35 : Cond.methodLink "VersionDepotLaw" 35 y_M_turn ∈ vd_tbl := vd_mt (List.mem_of_getElem? (i := 446) (by decide +kernel)) rfl
theorem ml_M_71 : Cond.methodLink "VersionDepotModel" 71 y_M_tidy ∈ vd_tbl := vd_mt (List.mem_of_getElem? (i := 450) (by decide +kernel)) rfl
theorem ml_M_75 : Cond.methodLink "VersionDepotModel" 75 y_M_show ∈ vd_tbl := vd_mt (List.mem_of_getElem? (i := 454) (by decide +kernel)) rfl
theorem ml_L_39 : Cond.methodLink "VersionDepotLaw" 39 y_M_merge ∈ vd_tbl := vd_mt (List.mem_of_getElem? (i := 458) (by decide +kernel)) rfl
theorem ml_M_82 : Cond.methodLink "VersionDepotModel" 82 y_M_shared ∈ vd_tbl := vd_mt (List.mem_of_getElem? (i := 462) (by decide +kernel)) rfl
theorem ml_M_79 : Cond.methodLink "VersionDepotModel" 79 y_M_mark ∈ vd_tbl := vd_mt (List.mem_of_getElem? (i := 466) (by decide +kernel)) rfl
theorem ml_M_86 : Cond.methodLink "VersionDepotModel" 86 y_M_mix ∈ vd_tbl := vd_mt (List.mem_of_getElem? (i := 470) (by decide +kernel)) rfl
theorem ml_L_43 : Cond.methodLink "VersionDepotLaw" 43 y_M_abort ∈ vd_tbl := vd_mt (List.mem_of_getElem? (i := 474) (by decide +kernel)) rfl
theorem ml_L_47 : Cond.methodLink "VersionDepotLaw" 47 y_M_pick ∈ vd_tbl := vd_mt (List.mem_of_getElem? (i := 478) (by decide +kernel)) rfl
theorem ml_M_90 : Cond.methodLink "VersionDepotModel" 90 y_M_isStored ∈ vd_tbl := vd_mt (List.mem_of_getElem? (i := 482) (by decide +kernel)) rfl
theorem ml_L_51 : Cond.methodLink "VersionDepotLaw" 51 y_M_reset ∈ vd_tbl := vd_mt (List.mem_of_getElem? (i := 486) (by decide +kernel)) rfl
theorem ml_L_55 : Cond.methodLink "VersionDepotLaw" 55 y_M_remove ∈ vd_tbl := vd_mt (List.mem_of_getElem? (i := 490) (by decide +kernel)) rfl
theorem ml_L_59 : Cond.methodLink "VersionDepotLaw" 59 y_M_sweep ∈ vd_tbl := vd_mt (List.mem_of_getElem? (i := 494) (by decide +kernel)) rfl
theorem ml_M_98 : Cond.methodLink "VersionDepotModel" 98 y_M_objects ∈ vd_tbl := vd_mt (List.mem_of_getElem? (i := 498) (by decide +kernel)) rfl
theorem ml_M_94 : Cond.methodLink "VersionDepotModel" 94 y_M_count ∈ vd_tbl := vd_mt (List.mem_of_getElem? (i := 502) (by decide +kernel)) rfl
theorem ml_M_104 : Cond.methodLink "VersionDepotModel" 104 y_M_folders ∈ vd_tbl := vd_mt (List.mem_of_getElem? (i := 506) (by decide +kernel)) rfl
theorem ml_M_101 : Cond.methodLink "VersionDepotModel" 101 y_M_alike ∈ vd_tbl := vd_mt (List.mem_of_getElem? (i := 510) (by decide +kernel)) rfl
theorem ml_M_107 : Cond.methodLink "VersionDepotModel" 107 y_M_roots ∈ vd_tbl := vd_mt (List.mem_of_getElem? (i := 514) (by decide +kernel)) rfl
theorem ml_M_110 : Cond.methodLink "VersionDepotModel" 110 y_M_changed ∈ vd_tbl := vd_mt (List.mem_of_getElem? (i := 518) (by decide +kernel)) rfl
theorem ml_L_63 : Cond.methodLink "VersionDepotLaw" 63 y_M_content ∈ vd_tbl := vd_mt (List.mem_of_getElem? (i := 522) (by decide +kernel)) rfl
theorem ml_L_67 : Cond.methodLink "VersionDepotLaw" 67 y_M_at ∈ vd_tbl := vd_mt (List.mem_of_getElem? (i := 526) (by decide +kernel)) rfl
theorem ml_L_71 : Cond.methodLink "VersionDepotLaw" 71 y_M_parent ∈ vd_tbl := vd_mt (List.mem_of_getElem? (i := 530) (by decide +kernel)) rfl
theorem ml_L_75 : Cond.methodLink "VersionDepotLaw" 75 y_M_branchAt ∈ vd_tbl := vd_mt (List.mem_of_getElem? (i := 534) (by decide +kernel)) rfl
theorem ml_L_79 : Cond.methodLink "VersionDepotLaw" 79 y_M_common ∈ vd_tbl := vd_mt (List.mem_of_getElem? (i := 538) (by decide +kernel)) rfl
theorem ml_L_83 : Cond.methodLink "VersionDepotLaw" 83 y_M_differ ∈ vd_tbl := vd_mt (List.mem_of_getElem? (i := 542) (by decide +kernel)) rfl
theorem ml_L_88 : Cond.methodLink "VersionDepotLaw" 88 y_M_clashing ∈ vd_tbl := vd_mt (List.mem_of_getElem? (i := 546) (by decide +kernel)) rfl
theorem ml_L_92 : Cond.methodLink "VersionDepotLaw" 92 y_M_count ∈ vd_tbl := vd_mt (List.mem_of_getElem? (i := 550) (by decide +kernel)) rfl
end
section
/-! THE STATE: K j i = place i of array j (class: 0 work, 1 index, 2 mixture, 3 tips, 4 rootOf, 5 firstParents, 6 secondParents, 7 ancestors, 8 folderRow, 9 bits, 10 folders.numbers, 11 folders.stored, 12 roots.numbers, 13 roots.stored; reference: 14 content, 15 stored, 16 first, 17 second, 18 branch, 19 clashing, 20 blob, 21 marked, 22 other); K j 0 for the fields (class: 40 head, 41 merging, 42 clashes, 43 made, 44 stored, 45 folders.last, 46 roots.last; reference: 47 made, 48 head, 49 merging) -/
abbrev KT : Type := Nat → Nat → Nat
def vd_sa (K : KT) (j : Nat) (G : Nat → Nat) : KT := fun a => if a = j then G else K a
theorem vd_sa_o {K : KT} {j a : Nat} {G : Nat → Nat} (h : a ≠ j) : vd_sa K j G a = K a := if_neg h
theorem vd_sa_s {K : KT} {j : Nat} {G : Nat → Nat} : vd_sa K j G j = G := if_pos rfl
theorem vd_sa_sa {K : KT} {j : Nat} {G G' : Nat → Nat} : vd_sa (vd_sa K j G) j G' = vd_sa K j G' := by
  funext a
  by_cases h : a = j
  · subst h
    rw [vd_sa_s, vd_sa_s]
  · rw [vd_sa_o h, vd_sa_o h, vd_sa_o h]
theorem vd_sa_id {K : KT} {j : Nat} {G : Nat → Nat} (h : G = K j) : vd_sa K j G = K := by
  funext a
  by_cases ha : a = j
  · subst ha
    rw [vd_sa_s, h]
  · rw [vd_sa_o ha]
def vd_st (K : KT) (j i x : Nat) : KT := vd_sa K j (fun b => if b = i then x else K j b)
def vd_fl (K : KT) (j o n : Nat) (g : Nat → Nat) : KT := vd_sa K j (fun b => if o ≤ b ∧ b < o + n then g (b - o) else K j b)
theorem vd_st_o {K : KT} {j i x a : Nat} (h : a ≠ j) : vd_st K j i x a = K a := vd_sa_o h
theorem vd_st_s {K : KT} {j i x : Nat} : vd_st K j i x j = fun b => if b = i then x else K j b := vd_sa_s
theorem vd_fl_o {K : KT} {j o n a : Nat} {g : Nat → Nat} (h : a ≠ j) : vd_fl K j o n g a = K a := vd_sa_o h
theorem vd_fl_i {K : KT} {j o n : Nat} {g : Nat → Nat} : vd_fl K j o n g j = fun b => if o ≤ b ∧ b < o + n then g (b - o) else K j b := vd_sa_s
theorem vd_fl_0 {K : KT} {j o : Nat} {g : Nat → Nat} : vd_fl K j o 0 g = K := vd_sa_id (by
  funext b
  rw [if_neg (by omega)])
theorem vd_fl_s {K : KT} {j o n : Nat} {g : Nat → Nat} : vd_st (vd_fl K j o n g) j (o + n) (g n) = vd_fl K j o (n + 1) g := by
  unfold vd_st
  rw [vd_fl_i]
  unfold vd_fl
  rw [vd_sa_sa]
  congr 1
  funext b
  by_cases h1 : b = o + n
  · rw [if_pos h1, if_pos (by omega), h1, Nat.add_sub_cancel_left]
  · rw [if_neg h1]
    show (if o ≤ b ∧ b < o + n then g (b - o) else K j b) = if o ≤ b ∧ b < o + (n + 1) then g (b - o) else K j b
    by_cases h2 : o ≤ b ∧ b < o + n
    · rw [if_pos h2, if_pos (by omega)]
    · rw [if_neg h2, if_neg (by omega)]
/-- a step of a filling loop, by equations -/
theorem vd_fl_step {K K2 K3 : KT} {j o n i x : Nat} {g : Nat → Nat} (h2 : K2 = vd_fl K j o n g) (h3 : K3 = vd_st K2 j i x) (hi : i = o + n) (hx : x = g n) : K3 = vd_fl K j o (n + 1) g := by
  rw [h3, h2, hi, hx, vd_fl_s]
def vd_ln (j : Nat) : Nat := [16, 16, 16, 6, 31, 31, 31, 31, 4, 157, 484, 121, 124, 31, 544, 31, 31, 31, 6, 16, 10000, 31, 31].getD j 1
def vd_ub (j : Nat) : Nat := [9999, 9999, 9999, 30, 30, 30, 30, 2147483647, 120, 18446744073709551615, 9999, 1, 120, 1, 9999, 1, 30, 30, 30, 1, 1, 1, 1, 0, 0, 0, 0, 0, 0, 0, 0, 0, 0, 0, 0, 0, 0, 0, 0, 0, 5, 30, 65535, 30, 2147483647, 120, 30, 30, 5, 30].getD j 0
def vd_kn (j : Nat) : Nat := [0, 0, 0, 0, 0, 0, 0, 0, 0, 2, 0, 1, 0, 1, 0, 1, 0, 0, 0, 1, 1, 1, 1].getD j 9
def vd_Bd (K : KT) : Prop := ∀ j i, i < vd_ln j → K j i ≤ vd_ub j
theorem vd_Bd.st {K : KT} {j i x : Nat} (h : vd_Bd K) (hx : x ≤ vd_ub j) : vd_Bd (vd_st K j i x) := by
  intro a b hb
  by_cases ha : a = j
  · subst ha
    rw [vd_st_s]
    show (if b = i then x else K a b) ≤ vd_ub a
    split
    · exact hx
    · exact h a b hb
  · rw [vd_st_o ha]
    exact h a b hb
theorem vd_Bd.sa {K : KT} {j : Nat} {G : Nat → Nat} (h : vd_Bd K) (hx : ∀ b, b < vd_ln j → G b ≤ vd_ub j) : vd_Bd (vd_sa K j G) := by
  intro a b hb
  by_cases ha : a = j
  · subst ha
    rw [vd_sa_s]
    exact hx b hb
  · rw [vd_sa_o ha]
    exact h a b hb
theorem vd_ln_lt : ∀ j, vd_ln j < 2 ^ 31
  | 0 => by decide | 1 => by decide | 2 => by decide | 3 => by decide | 4 => by decide | 5 => by decide | 6 => by decide | 7 => by decide | 8 => by decide | 9 => by decide | 10 => by decide | 11 => by decide | 12 => by decide | 13 => by decide | 14 => by decide | 15 => by decide | 16 => by decide | 17 => by decide | 18 => by decide | 19 => by decide | 20 => by decide | 21 => by decide | 22 => by decide
  | _ + 23 => by show 1 < 2 ^ 31; decide
def vd_tys (D : va_G) : List (ClassId × FieldType) := [(D.1 50, .int), (D.1 51, .boolean), (D.1 52, .long)]
def vd_Ad (ad : Nat → Nat) (q : Nat) : Prop := ∃ j, (j < 23 ∨ (30 ≤ j ∧ j < 36)) ∧ q = ad j
def vd_wd (D : va_G) (ad : Nat → Nat) (K : KT) : va_W := [(ad 30, .inr (3, [.ref (ad 31), .ref (ad 0), .ref (ad 1), .ref (ad 2), .ref (ad 3), .int (nI (K 40 0)), .int (nI (K 41 0)), .int (nI (K 42 0))])),
  (ad 31, .inr (2, [.ref (ad 32), .ref (ad 33), .ref (ad 34), .ref (ad 4), .ref (ad 5), .ref (ad 6), .ref (ad 7), .ref (ad 8), .int (nI (K 43 0)), .int (nI (K 44 0))])),
  (ad 32, .inr (0, [.ref (ad 9)])),
  (ad 33, .inr (1, [.ref (ad 10), .ref (ad 11), .int (nI (K 45 0))])),
  (ad 34, .inr (1, [.ref (ad 12), .ref (ad 13), .int (nI (K 46 0))])),
  (ad 35, .inr (4, [.ref (ad 14), .ref (ad 15), .ref (ad 16), .ref (ad 17), .int (nI (K 47 0)), .ref (ad 18), .int (nI (K 48 0)), .int (nI (K 49 0)), .ref (ad 19), .ref (ad 20), .ref (ad 21), .ref (ad 22)])),
  (ad 0, .inl (D.1 50, 16, .inl (fun b => nI (K 0 b)))),
  (ad 1, .inl (D.1 50, 16, .inl (fun b => nI (K 1 b)))),
  (ad 2, .inl (D.1 50, 16, .inl (fun b => nI (K 2 b)))),
  (ad 3, .inl (D.1 50, 6, .inl (fun b => nI (K 3 b)))),
  (ad 4, .inl (D.1 50, 31, .inl (fun b => nI (K 4 b)))),
  (ad 5, .inl (D.1 50, 31, .inl (fun b => nI (K 5 b)))),
  (ad 6, .inl (D.1 50, 31, .inl (fun b => nI (K 6 b)))),
  (ad 7, .inl (D.1 50, 31, .inl (fun b => nI (K 7 b)))),
  (ad 8, .inl (D.1 50, 4, .inl (fun b => nI (K 8 b)))),
  (ad 9, .inl (D.1 52, 157, .inr (.inl (fun b => lN (K 9 b))))),
  (ad 10, .inl (D.1 50, 484, .inl (fun b => nI (K 10 b)))),
  (ad 11, .inl (D.1 51, 121, .inl (fun b => nI (K 11 b)))),
  (ad 12, .inl (D.1 50, 124, .inl (fun b => nI (K 12 b)))),
  (ad 13, .inl (D.1 51, 31, .inl (fun b => nI (K 13 b)))),
  (ad 14, .inl (D.1 50, 544, .inl (fun b => nI (K 14 b)))),
  (ad 15, .inl (D.1 51, 31, .inl (fun b => nI (K 15 b)))),
  (ad 16, .inl (D.1 50, 31, .inl (fun b => nI (K 16 b)))),
  (ad 17, .inl (D.1 50, 31, .inl (fun b => nI (K 17 b)))),
  (ad 18, .inl (D.1 50, 6, .inl (fun b => nI (K 18 b)))),
  (ad 19, .inl (D.1 51, 16, .inl (fun b => nI (K 19 b)))),
  (ad 20, .inl (D.1 51, 10000, .inl (fun b => nI (K 20 b)))),
  (ad 21, .inl (D.1 51, 31, .inl (fun b => nI (K 21 b)))),
  (ad 22, .inl (D.1 51, 31, .inl (fun b => nI (K 22 b))))]
theorem vd_at_i (D : va_G) (ad : Nat → Nat) (K : KT) : ∀ j, vd_kn j = 0 → (vd_wd D ad K)[6 + j]? = some (ad j, .inl (D.1 50, vd_ln j, .inl (fun b => nI (K j b))))
  | 0, _ => rfl
  | 1, _ => rfl
  | 2, _ => rfl
  | 3, _ => rfl
  | 4, _ => rfl
  | 5, _ => rfl
  | 6, _ => rfl
  | 7, _ => rfl
  | 8, _ => rfl
  | 9, h => absurd h (by decide)
  | 10, _ => rfl
  | 11, h => absurd h (by decide)
  | 12, _ => rfl
  | 13, h => absurd h (by decide)
  | 14, _ => rfl
  | 15, h => absurd h (by decide)
  | 16, _ => rfl
  | 17, _ => rfl
  | 18, _ => rfl
  | 19, h => absurd h (by decide)
  | 20, h => absurd h (by decide)
  | 21, h => absurd h (by decide)
  | 22, h => absurd h (by decide)
  | j + 23, h => absurd (show (9 : Nat) = 0 from h) (by decide)
theorem vd_set_i (D : va_G) (ad : Nat → Nat) (K : KT) (G : Nat → Nat) : ∀ j, vd_kn j = 0 → (vd_wd D ad K).set (6 + j) (ad j, .inl (D.1 50, vd_ln j, .inl (fun b => nI (G b)))) = vd_wd D ad (vd_sa K j G)
  | 0, _ => rfl
  | 1, _ => rfl
  | 2, _ => rfl
  | 3, _ => rfl
  | 4, _ => rfl
  | 5, _ => rfl
  | 6, _ => rfl
  | 7, _ => rfl
  | 8, _ => rfl
  | 9, h => absurd h (by decide)
  | 10, _ => rfl
  | 11, h => absurd h (by decide)
  | 12, _ => rfl
  | 13, h => absurd h (by decide)
  | 14, _ => rfl
  | 15, h => absurd h (by decide)
  | 16, _ => rfl
  | 17, _ => rfl
  | 18, _ => rfl
  | 19, h => absurd h (by decide)
  | 20, h => absurd h (by decide)
  | 21, h => absurd h (by decide)
  | 22, h => absurd h (by decide)
  | j + 23, h => absurd (show (9 : Nat) = 0 from h) (by decide)
theorem vd_at_z (D : va_G) (ad : Nat → Nat) (K : KT) : ∀ j, vd_kn j = 1 → (vd_wd D ad K)[6 + j]? = some (ad j, .inl (D.1 51, vd_ln j, .inl (fun b => nI (K j b))))
  | 0, h => absurd h (by decide)
  | 1, h => absurd h (by decide)
  | 2, h => absurd h (by decide)
  | 3, h => absurd h (by decide)
  | 4, h => absurd h (by decide)
  | 5, h => absurd h (by decide)
  | 6, h => absurd h (by decide)
  | 7, h => absurd h (by decide)
  | 8, h => absurd h (by decide)
  | 9, h => absurd h (by decide)
  | 10, h => absurd h (by decide)
  | 11, _ => rfl
  | 12, h => absurd h (by decide)
  | 13, _ => rfl
  | 14, h => absurd h (by decide)
  | 15, _ => rfl
  | 16, h => absurd h (by decide)
  | 17, h => absurd h (by decide)
  | 18, h => absurd h (by decide)
  | 19, _ => rfl
  | 20, _ => rfl
  | 21, _ => rfl
  | 22, _ => rfl
  | j + 23, h => absurd (show (9 : Nat) = 1 from h) (by decide)
theorem vd_set_z (D : va_G) (ad : Nat → Nat) (K : KT) (G : Nat → Nat) : ∀ j, vd_kn j = 1 → (vd_wd D ad K).set (6 + j) (ad j, .inl (D.1 51, vd_ln j, .inl (fun b => nI (G b)))) = vd_wd D ad (vd_sa K j G)
  | 0, h => absurd h (by decide)
  | 1, h => absurd h (by decide)
  | 2, h => absurd h (by decide)
  | 3, h => absurd h (by decide)
  | 4, h => absurd h (by decide)
  | 5, h => absurd h (by decide)
  | 6, h => absurd h (by decide)
  | 7, h => absurd h (by decide)
  | 8, h => absurd h (by decide)
  | 9, h => absurd h (by decide)
  | 10, h => absurd h (by decide)
  | 11, _ => rfl
  | 12, h => absurd h (by decide)
  | 13, _ => rfl
  | 14, h => absurd h (by decide)
  | 15, _ => rfl
  | 16, h => absurd h (by decide)
  | 17, h => absurd h (by decide)
  | 18, h => absurd h (by decide)
  | 19, _ => rfl
  | 20, _ => rfl
  | 21, _ => rfl
  | 22, _ => rfl
  | j + 23, h => absurd (show (9 : Nat) = 1 from h) (by decide)
theorem vd_at_l (D : va_G) (ad : Nat → Nat) (K : KT) : ∀ j, vd_kn j = 2 → (vd_wd D ad K)[6 + j]? = some (ad j, .inl (D.1 52, vd_ln j, .inr (.inl (fun b => lN (K j b)))))
  | 0, h => absurd h (by decide)
  | 1, h => absurd h (by decide)
  | 2, h => absurd h (by decide)
  | 3, h => absurd h (by decide)
  | 4, h => absurd h (by decide)
  | 5, h => absurd h (by decide)
  | 6, h => absurd h (by decide)
  | 7, h => absurd h (by decide)
  | 8, h => absurd h (by decide)
  | 9, _ => rfl
  | 10, h => absurd h (by decide)
  | 11, h => absurd h (by decide)
  | 12, h => absurd h (by decide)
  | 13, h => absurd h (by decide)
  | 14, h => absurd h (by decide)
  | 15, h => absurd h (by decide)
  | 16, h => absurd h (by decide)
  | 17, h => absurd h (by decide)
  | 18, h => absurd h (by decide)
  | 19, h => absurd h (by decide)
  | 20, h => absurd h (by decide)
  | 21, h => absurd h (by decide)
  | 22, h => absurd h (by decide)
  | j + 23, h => absurd (show (9 : Nat) = 2 from h) (by decide)
theorem vd_set_l (D : va_G) (ad : Nat → Nat) (K : KT) (G : Nat → Nat) : ∀ j, vd_kn j = 2 → (vd_wd D ad K).set (6 + j) (ad j, .inl (D.1 52, vd_ln j, .inr (.inl (fun b => lN (G b))))) = vd_wd D ad (vd_sa K j G)
  | 0, h => absurd h (by decide)
  | 1, h => absurd h (by decide)
  | 2, h => absurd h (by decide)
  | 3, h => absurd h (by decide)
  | 4, h => absurd h (by decide)
  | 5, h => absurd h (by decide)
  | 6, h => absurd h (by decide)
  | 7, h => absurd h (by decide)
  | 8, h => absurd h (by decide)
  | 9, _ => rfl
  | 10, h => absurd h (by decide)
  | 11, h => absurd h (by decide)
  | 12, h => absurd h (by decide)
  | 13, h => absurd h (by decide)
  | 14, h => absurd h (by decide)
  | 15, h => absurd h (by decide)
  | 16, h => absurd h (by decide)
  | 17, h => absurd h (by decide)
  | 18, h => absurd h (by decide)
  | 19, h => absurd h (by decide)
  | 20, h => absurd h (by decide)
  | 21, h => absurd h (by decide)
  | 22, h => absurd h (by decide)
  | j + 23, h => absurd (show (9 : Nat) = 2 from h) (by decide)
def vd_b (b : Bool) : Int32 := nI b.toNat
theorem vd_b_t : vd_b true = nI 1 := rfl
theorem vd_b_f : vd_b false = nI 0 := rfl
def vd_Cx (p : Program) (s : State) (m : MethodId) (c : Code) (cc : ByteArray) (nL : Nat) (args : Array Value) (own : String) (D : va_G) : Prop :=
  p.tables.exec = Jvm.exec ∧ c.code = cc ∧ c.maxLocals = nL ∧ s.vm.findClass own = some m.cls ∧ (∀ w ∈ vd_tbl, w.before args s = true) ∧ va_K D vwCl (vd_tys D) s
def vd_WS (D : va_G) (ad : Nat → Nat) (s : State) (K : KT) (H : Heap) (locs : List Loc) : Prop :=
  va_P D vwCl (vd_wd D ad K) H ∧ va_D (vd_Ad ad) (vd_wd D ad K) ∧ va_S (vd_Ad ad) s.heap H locs ∧ vd_Bd K
def vd_St (D : va_G) (ad : Nat → Nat) (K : KT) (U : State) : Prop :=
  va_P D vwCl (vd_wd D ad K) U.heap ∧ va_K D vwCl (vd_tys D) U ∧ va_D (vd_Ad ad) (vd_wd D ad K) ∧ vd_Bd K
abbrev vd_R (d lo : Nat) : Room := { frames := d, cells := 0, slots := 0, locals := lo }
abbrev vd_QI (D : va_G) (ad : Nat → Nat) (post : Int32 → KT → Prop) : Array Value → State → Outcome → State → Prop := va_Qi post (fun K' t => vd_St D ad K' t) (vd_Ad ad)
abbrev vd_QV (D : va_G) (ad : Nat → Nat) (post : KT → Prop) : Array Value → State → Outcome → State → Prop := va_Qv post (fun K' t => vd_St D ad K' t) (vd_Ad ad)
def vd_MI (l : Launch) (y : MethodName) (cc : ByteArray) (maxL : Nat) (ret : Option FieldType) (d lo : Nat) (D : va_G) (ad : Nat → Nat) (As : List Value) (K : KT) (post : Int32 → KT → Prop) : Prop :=
  Met l y (Cond.code y cc maxL ret :: vd_tbl) (vd_R d lo) (va_Pc As (fun U => vd_St D ad K U)) (vd_QI D ad post) 0 0 (vd_Ad ad)
def vd_MV (l : Launch) (y : MethodName) (cc : ByteArray) (maxL : Nat) (d lo : Nat) (D : va_G) (ad : Nat → Nat) (As : List Value) (K : KT) (post : KT → Prop) : Prop :=
  Met l y (Cond.code y cc maxL none :: vd_tbl) (vd_R d lo) (va_Pc As (fun U => vd_St D ad K U)) (vd_QV D ad post) 0 0 (vd_Ad ad)
/-- what is known of a method's name: instance methods, static methods -/
def vd_MO (y : MethodName) (bytes : ByteArray) (maxL : Nat) (ret : Option FieldType) (n : Nat) : Prop :=
  y.cls ≠ "java/lang/invoke/MethodHandle" ∧ y.cls ≠ "java/lang/invoke/VarHandle" ∧ (parseMethodDescriptor y.desc).map (fun d => d.parameters.length) = some n ∧ Cond.code y bytes maxL ret ∈ vd_tbl ∧ Cond.initialized y.cls ∈ vd_tbl
theorem vd_gd (h : vd_tbl.all goodWord = true) {y : MethodName} {bytes : ByteArray} {maxL : Nat} {ret : Option FieldType} (hc : Cond.code y bytes maxL ret ∈ vd_tbl) : GoodIn vd_tbl (Cond.code y bytes maxL ret :: vd_tbl) := by
  intro w hw
  have h1 : w ∈ vd_tbl := by
    rcases List.mem_cons.mp hw with rfl | h2
    · exact hc
    · exact h2
  exact ⟨h1, good_of_word (List.all_eq_true.mp h w h1)⟩
theorem vd_good : vd_tbl.all goodWord = true := List.all_eq_true.mpr (fun _ h => (List.mem_filter.mp h).2)
theorem vd_upd_i (K : KT) (j i x : Nat) : upd (fun b => nI (K j b)) i (nI x) = fun b => nI ((fun b => if b = i then x else K j b) b) := by
  funext b
  show (if b = i then nI x else nI (K j b)) = nI (if b = i then x else K j b)
  split <;> rfl
theorem vd_upd_l (K : KT) (j i x : Nat) : vp_updL (fun b => lN (K j b)) i (lN x) = fun b => lN ((fun b => if b = i then x else K j b) b) := by
  funext b
  show (if b = i then lN x else lN (K j b)) = lN (if b = i then x else K j b)
  split <;> rfl
theorem vd_nz : ∀ x, x ≤ 1 → vp_nar .boolean (nI x) = nI x := by
  intro x h
  rcases (show x = 0 ∨ x = 1 by omega) with rfl | rfl <;> decide
theorem vd_inc (a k : Nat) : nI a + Int32.ofInt (k : Int) = nI (a + k) := by
  rw [← nI_add]
  rfl
theorem vd_dec (a : Nat) : nI (a + 1) + Int32.ofInt (-1) = nI a := pk_m1 a
theorem vd_and (a b : Nat) : nI a &&& nI b = nI (a &&& b) := by
  apply Int32.toBitVec_inj.1
  show BitVec.ofNat 32 a &&& BitVec.ofNat 32 b = BitVec.ofNat 32 (a &&& b)
  apply BitVec.eq_of_getLsbD_eq
  intro i hi
  simp [hi]
theorem vd_or (a b : Nat) : nI a ||| nI b = nI (a ||| b) := by
  apply Int32.toBitVec_inj.1
  show BitVec.ofNat 32 a ||| BitVec.ofNat 32 b = BitVec.ofNat 32 (a ||| b)
  apply BitVec.eq_of_getLsbD_eq
  intro i hi
  simp [hi]
theorem vd_shl : ∀ y, y < 31 → nI 1 <<< (nI y &&& 31) = nI (2 ^ y) := by decide +kernel
theorem vd_cpy (K : KT) (j0 j1 sp dp n : Nat) : va_cpy (fun b => nI (K j0 b)) (fun b => nI (K j1 b)) sp dp n = fun b => nI ((fun b => if dp ≤ b ∧ b < dp + n then (fun b => K j0 (sp + b)) (b - dp) else K j1 b) b) := by
  funext b
  show (if dp ≤ b ∧ b < dp + n then nI (K j0 (sp + (b - dp))) else nI (K j1 b)) = nI (if dp ≤ b ∧ b < dp + n then K j0 (sp + (b - dp)) else K j1 b)
  split <;> rfl
theorem vd_wNat : Cond.native arraycopyName ∈ vd_tbl := vd_mt (by decide +kernel) (by decide +kernel)
theorem vd_wSta : Cond.static arraycopyName ∈ vd_tbl := vd_mt (by decide +kernel) (by decide +kernel)
theorem vd_wIni : Cond.initialized "java/lang/System" ∈ vd_tbl := vd_mt (by decide +kernel) (by decide +kernel)
section VDR
variable {p : Program} {l : Launch} {e : Env} {R : Room} {s : State} {m : MethodId} {args : Array Value} {below : List Frame} {meth : Method} {c : Code} {H : Heap} {locs : List Loc} {Q : State → Prop}
variable {cells slots : Nat} {cc : ByteArray} {pc nL : Nat} {ls : Array Slot} {rest : List Value} {own : String} {D : va_G} {ad : Nat → Nat} {K : KT}
theorem vd_iald (CX : vd_Cx p s m c cc nL args own D) (HW : vd_WS D ad s K H locs) {j i : Nat} (hj : vd_kn j = 0) (hi : i < vd_ln j) (hdg : decode cc pc = .ok (.iaload, 1))
    (kk : K j i ≤ vd_ub j → W p l e R s m args below meth c H locs cells slots Q (F0 m (pc + 1) ls (.int (nI (K j i)) :: rest))) : W p l e R s m args below meth c H locs cells slots Q (F0 m pc ls (.int (nI i) :: .ref (ad j) :: rest)) := by
  obtain ⟨hx, hb, -, -, -, hK⟩ := CX
  have hc : (nI i).toNatClampNeg = i := nI_clamp (Nat.lt_trans hi (vd_ln_lt j))
  have k2 := kk (HW.2.2.2 j i hi)
  refine va_iald (i := nI i) hx hb hK HW.1 (6 + j) 0 (vd_at_i D ad K j hj) rfl (vp_in_nI hi (vd_ln_lt j)) hdg ?_
  rw [hc]
  exact k2
theorem vd_zald (CX : vd_Cx p s m c cc nL args own D) (HW : vd_WS D ad s K H locs) {j i : Nat} (hj : vd_kn j = 1) (hi : i < vd_ln j) (hdg : decode cc pc = .ok (.baload, 1))
    (kk : K j i ≤ vd_ub j → W p l e R s m args below meth c H locs cells slots Q (F0 m (pc + 1) ls (.int (nI (K j i)) :: rest))) : W p l e R s m args below meth c H locs cells slots Q (F0 m pc ls (.int (nI i) :: .ref (ad j) :: rest)) := by
  obtain ⟨hx, hb, -, -, -, hK⟩ := CX
  have hc : (nI i).toNatClampNeg = i := nI_clamp (Nat.lt_trans hi (vd_ln_lt j))
  have k2 := kk (HW.2.2.2 j i hi)
  refine va_zald (i := nI i) hx hb hK HW.1 (6 + j) 1 (vd_at_z D ad K j hj) rfl (vp_in_nI hi (vd_ln_lt j)) hdg ?_
  rw [hc]
  exact k2
theorem vd_lald (CX : vd_Cx p s m c cc nL args own D) (HW : vd_WS D ad s K H locs) {j i : Nat} (hj : vd_kn j = 2) (hi : i < vd_ln j) (hdg : decode cc pc = .ok (.laload, 1))
    (kk : K j i ≤ vd_ub j → W p l e R s m args below meth c H locs cells slots Q (F0 m (pc + 1) ls (.long (lN (K j i)) :: rest))) : W p l e R s m args below meth c H locs cells slots Q (F0 m pc ls (.int (nI i) :: .ref (ad j) :: rest)) := by
  obtain ⟨hx, hb, -, -, -, hK⟩ := CX
  have hc : (nI i).toNatClampNeg = i := nI_clamp (Nat.lt_trans hi (vd_ln_lt j))
  have k2 := kk (HW.2.2.2 j i hi)
  refine va_lald (i := nI i) hx hb hK HW.1 (6 + j) 2 (vd_at_l D ad K j hj) rfl (vp_in_nI hi (vd_ln_lt j)) hdg ?_
  rw [hc]
  exact k2
theorem vd_iast (CX : vd_Cx p s m c cc nL args own D) (HW : vd_WS D ad s K H locs) {j i x : Nat} (hj : vd_kn j = 0) (hi : i < vd_ln j) (hv : x ≤ vd_ub j) (hdg : decode cc pc = .ok (.iastore, 1))
    (kk : ∀ (K' : KT) (H' : Heap) (locs' : List Loc), K' = vd_st K j i x → vd_WS D ad s K' H' locs' → W p l e R s m args below meth c H' locs' cells slots Q (F0 m (pc + 1) ls rest)) : W p l e R s m args below meth c H locs cells slots Q (F0 m pc ls (.int (nI x) :: .int (nI i) :: .ref (ad j) :: rest)) := by
  obtain ⟨hx, hb, -, -, -, hK⟩ := CX
  obtain ⟨hP, hD, hS, hB⟩ := HW
  have hc : (nI i).toNatClampNeg = i := nI_clamp (Nat.lt_trans hi (vd_ln_lt j))
  refine va_iast (i := nI i) (x := nI x) hx hb hK hP hD hS (6 + j) 0 (vd_at_i D ad K j hj) rfl (vp_in_nI hi (vd_ln_lt j)) hdg (fun H1 locs1 h1 h2 h3 => ?_)
  rw [hc, vd_upd_i, vd_set_i D ad K _ j hj] at h1 h2
  exact kk _ H1 locs1 rfl ⟨h1, h2, h3, hB.st hv⟩
theorem vd_zast (CX : vd_Cx p s m c cc nL args own D) (HW : vd_WS D ad s K H locs) {j i x : Nat} (hj : vd_kn j = 1) (hi : i < vd_ln j) (hv : x ≤ 1) (hu : x ≤ vd_ub j) (hdg : decode cc pc = .ok (.bastore, 1))
    (kk : ∀ (K' : KT) (H' : Heap) (locs' : List Loc), K' = vd_st K j i x → vd_WS D ad s K' H' locs' → W p l e R s m args below meth c H' locs' cells slots Q (F0 m (pc + 1) ls rest)) : W p l e R s m args below meth c H locs cells slots Q (F0 m pc ls (.int (nI x) :: .int (nI i) :: .ref (ad j) :: rest)) := by
  obtain ⟨hx, hb, -, -, -, hK⟩ := CX
  obtain ⟨hP, hD, hS, hB⟩ := HW
  have hc : (nI i).toNatClampNeg = i := nI_clamp (Nat.lt_trans hi (vd_ln_lt j))
  refine va_zast (i := nI i) (x := nI x) hx hb hK hP hD hS (6 + j) 1 (vd_at_z D ad K j hj) rfl (vp_in_nI hi (vd_ln_lt j)) hdg (fun H1 locs1 h1 h2 h3 => ?_)
  rw [hc, vd_nz x hv, vd_upd_i, vd_set_z D ad K _ j hj] at h1 h2
  exact kk _ H1 locs1 rfl ⟨h1, h2, h3, hB.st hu⟩
theorem vd_last (CX : vd_Cx p s m c cc nL args own D) (HW : vd_WS D ad s K H locs) {j i x : Nat} (hj : vd_kn j = 2) (hi : i < vd_ln j) (hv : x ≤ vd_ub j) (hdg : decode cc pc = .ok (.lastore, 1))
    (kk : ∀ (K' : KT) (H' : Heap) (locs' : List Loc), K' = vd_st K j i x → vd_WS D ad s K' H' locs' → W p l e R s m args below meth c H' locs' cells slots Q (F0 m (pc + 1) ls rest)) : W p l e R s m args below meth c H locs cells slots Q (F0 m pc ls (.long (lN x) :: .int (nI i) :: .ref (ad j) :: rest)) := by
  obtain ⟨hx, hb, -, -, -, hK⟩ := CX
  obtain ⟨hP, hD, hS, hB⟩ := HW
  have hc : (nI i).toNatClampNeg = i := nI_clamp (Nat.lt_trans hi (vd_ln_lt j))
  refine va_last (i := nI i) (x := lN x) hx hb hK hP hD hS (6 + j) 2 (vd_at_l D ad K j hj) rfl (vp_in_nI hi (vd_ln_lt j)) hdg (fun H1 locs1 h1 h2 h3 => ?_)
  rw [hc, vd_upd_l, vd_set_l D ad K _ j hj] at h1 h2
  exact kk _ H1 locs1 rfl ⟨h1, h2, h3, hB.st hv⟩
theorem vd_alen1 (CX : vd_Cx p s m c cc nL args own D) (HW : vd_WS D ad s K H locs) {j : Nat} (hj : vd_kn j = 1) (hdg : decode cc pc = .ok (.arraylength, 1))
    (kk : W p l e R s m args below meth c H locs cells slots Q (F0 m (pc + 1) ls (.int (nI (vd_ln j)) :: rest))) : W p l e R s m args below meth c H locs cells slots Q (F0 m pc ls (.ref (ad j) :: rest)) := by
  obtain ⟨hx, hb, -, -, -, hK⟩ := CX
  exact va_alen hx hb hK HW.1 (6 + j) 1 (vd_at_z D ad K j hj) rfl rfl hdg kk
theorem vd_alen2 (CX : vd_Cx p s m c cc nL args own D) (HW : vd_WS D ad s K H locs) {j : Nat} (hj : vd_kn j = 2) (hdg : decode cc pc = .ok (.arraylength, 1))
    (kk : W p l e R s m args below meth c H locs cells slots Q (F0 m (pc + 1) ls (.int (nI (vd_ln j)) :: rest))) : W p l e R s m args below meth c H locs cells slots Q (F0 m pc ls (.ref (ad j) :: rest)) := by
  obtain ⟨hx, hb, -, -, -, hK⟩ := CX
  exact va_alen hx hb hK HW.1 (6 + j) 2 (vd_at_l D ad K j hj) rfl rfl hdg kk
theorem vd_iadd (hx : p.tables.exec = Jvm.exec) (hb : c.code = cc) {x y : Nat} (hdg : decode cc pc = .ok (.iadd, 1)) (k : W p l e R s m args below meth c H locs cells slots Q (F0 m (pc + 1) ls (.int (nI (x + y)) :: rest))) : W p l e R s m args below meth c H locs cells slots Q (F0 m pc ls (.int (nI y) :: .int (nI x) :: rest)) := lv_iadd hx hb hdg (by rw [nI_add]; exact k)
theorem vd_imul (hx : p.tables.exec = Jvm.exec) (hb : c.code = cc) {x y : Nat} (hdg : decode cc pc = .ok (.imul, 1)) (k : W p l e R s m args below meth c H locs cells slots Q (F0 m (pc + 1) ls (.int (nI (x * y)) :: rest))) : W p l e R s m args below meth c H locs cells slots Q (F0 m pc ls (.int (nI y) :: .int (nI x) :: rest)) := lv_imul hx hb hdg (by rw [pk_mul]; exact k)
theorem vd_isub (hx : p.tables.exec = Jvm.exec) (hb : c.code = cc) {x y : Nat} (h : y ≤ x) (hdg : decode cc pc = .ok (.isub, 1)) (k : W p l e R s m args below meth c H locs cells slots Q (F0 m (pc + 1) ls (.int (nI (x - y)) :: rest))) : W p l e R s m args below meth c H locs cells slots Q (F0 m pc ls (.int (nI y) :: .int (nI x) :: rest)) := lv_isub hx hb hdg (by rw [pk_sub h]; exact k)
theorem vd_idiv (hx : p.tables.exec = Jvm.exec) (hb : c.code = cc) {x y : Nat} (h1 : x < 2 ^ 31) (h2 : 0 < y) (h3 : y < 2 ^ 31) (hdg : decode cc pc = .ok (.idiv, 1)) (k : W p l e R s m args below meth c H locs cells slots Q (F0 m (pc + 1) ls (.int (nI (x / y)) :: rest))) : W p l e R s m args below meth c H locs cells slots Q (F0 m pc ls (.int (nI y) :: .int (nI x) :: rest)) := lv_idiv hx hb hdg (nI_ne0 h2 h3) (by rw [pk_div h1 h2 h3]; exact k)
theorem vd_irem (hx : p.tables.exec = Jvm.exec) (hb : c.code = cc) {x y : Nat} (h1 : x < 2 ^ 31) (h2 : 0 < y) (h3 : y < 2 ^ 31) (hdg : decode cc pc = .ok (.irem, 1)) (k : W p l e R s m args below meth c H locs cells slots Q (F0 m (pc + 1) ls (.int (nI (x % y)) :: rest))) : W p l e R s m args below meth c H locs cells slots Q (F0 m pc ls (.int (nI y) :: .int (nI x) :: rest)) := lv_irem hx hb hdg (nI_ne0 h2 h3) (by rw [pk_rem h1 h2 h3]; exact k)
theorem vd_iand (hx : p.tables.exec = Jvm.exec) (hb : c.code = cc) {x y : Nat} (hdg : decode cc pc = .ok (.iand, 1)) (k : W p l e R s m args below meth c H locs cells slots Q (F0 m (pc + 1) ls (.int (nI (x &&& y)) :: rest))) : W p l e R s m args below meth c H locs cells slots Q (F0 m pc ls (.int (nI y) :: .int (nI x) :: rest)) := lv_iand hx hb hdg (by rw [vd_and]; exact k)
theorem vd_ior (hx : p.tables.exec = Jvm.exec) (hb : c.code = cc) {x y : Nat} (hdg : decode cc pc = .ok (.ior, 1)) (k : W p l e R s m args below meth c H locs cells slots Q (F0 m (pc + 1) ls (.int (nI (x ||| y)) :: rest))) : W p l e R s m args below meth c H locs cells slots Q (F0 m pc ls (.int (nI y) :: .int (nI x) :: rest)) := lv_ior hx hb hdg (by rw [vd_or]; exact k)
theorem vd_shl1 (hx : p.tables.exec = Jvm.exec) (hb : c.code = cc) {y : Nat} (h : y < 31) (hdg : decode cc pc = .ok (.ishl, 1)) (k : W p l e R s m args below meth c H locs cells slots Q (F0 m (pc + 1) ls (.int (nI (2 ^ y)) :: rest))) : W p l e R s m args below meth c H locs cells slots Q (F0 m pc ls (.int (nI y) :: .int (nI 1) :: rest)) := lv_ishl hx hb hdg (by rw [vd_shl y h]; exact k)
theorem vd_if_eq (hx : p.tables.exec = Jvm.exec) (hb : c.code = cc) {x : Nat} {off : Int} {tgt : Nat} (hdg : decode cc pc = .ok (.ifCond .eq off, 3)) (ht : (pc : Int) + off = (tgt : Int)) (hn : x < 2 ^ 31)
    (kt : x = 0 → W p l e R s m args below meth c H locs cells slots Q (F0 m tgt ls rest)) (kf : x ≠ 0 → W p l e R s m args below meth c H locs cells slots Q (F0 m (pc + 3) ls rest)) : W p l e R s m args below meth c H locs cells slots Q (F0 m pc ls (.int (nI x) :: rest)) :=
  lv_if_eq hx hb hdg ht (fun h => kt ((nI_eq hn (by decide)).mp h)) (fun h => kf (fun h2 => h (by rw [h2]; rfl)))
theorem vd_if_ne (hx : p.tables.exec = Jvm.exec) (hb : c.code = cc) {x : Nat} {off : Int} {tgt : Nat} (hdg : decode cc pc = .ok (.ifCond .ne off, 3)) (ht : (pc : Int) + off = (tgt : Int)) (hn : x < 2 ^ 31)
    (kt : x ≠ 0 → W p l e R s m args below meth c H locs cells slots Q (F0 m tgt ls rest)) (kf : x = 0 → W p l e R s m args below meth c H locs cells slots Q (F0 m (pc + 3) ls rest)) : W p l e R s m args below meth c H locs cells slots Q (F0 m pc ls (.int (nI x) :: rest)) :=
  lv_if_ne hx hb hdg ht (fun h => kt (fun h2 => h (by rw [h2]; rfl))) (fun h => kf ((nI_eq hn (by decide)).mp h))
theorem vd_if_gt (hx : p.tables.exec = Jvm.exec) (hb : c.code = cc) {x : Nat} {off : Int} {tgt : Nat} (hdg : decode cc pc = .ok (.ifCond .gt off, 3)) (ht : (pc : Int) + off = (tgt : Int)) (hn : x < 2 ^ 31)
    (kt : x ≠ 0 → W p l e R s m args below meth c H locs cells slots Q (F0 m tgt ls rest)) (kf : x = 0 → W p l e R s m args below meth c H locs cells slots Q (F0 m (pc + 3) ls rest)) : W p l e R s m args below meth c H locs cells slots Q (F0 m pc ls (.int (nI x) :: rest)) :=
  lv_if_gt hx hb hdg ht (fun h => kt (fun h2 => by rw [h2] at h; exact absurd h (by decide))) (fun h => kf (Classical.byContradiction fun h2 => h (nI_lt (Nat.pos_of_ne_zero h2) hn)))
theorem vd_if_le (hx : p.tables.exec = Jvm.exec) (hb : c.code = cc) {x : Nat} {off : Int} {tgt : Nat} (hdg : decode cc pc = .ok (.ifCond .le off, 3)) (ht : (pc : Int) + off = (tgt : Int)) (hn : x < 2 ^ 31)
    (kt : x = 0 → W p l e R s m args below meth c H locs cells slots Q (F0 m tgt ls rest)) (kf : x ≠ 0 → W p l e R s m args below meth c H locs cells slots Q (F0 m (pc + 3) ls rest)) : W p l e R s m args below meth c H locs cells slots Q (F0 m pc ls (.int (nI x) :: rest)) :=
  lv_if_le hx hb hdg ht (fun h => kt (Classical.byContradiction fun h2 => nI_nle (Nat.pos_of_ne_zero h2) hn h)) (fun h => kf (fun h2 => h (by rw [h2]; decide)))
theorem vd_icmp_ge (hx : p.tables.exec = Jvm.exec) (hb : c.code = cc) {x y : Nat} {off : Int} {tgt : Nat} (hdg : decode cc pc = .ok (.if_icmp .ge off, 3)) (ht : (pc : Int) + off = (tgt : Int)) (h1 : x < 2 ^ 31) (h2 : y < 2 ^ 31)
    (kt : y ≤ x → W p l e R s m args below meth c H locs cells slots Q (F0 m tgt ls rest)) (kf : x < y → W p l e R s m args below meth c H locs cells slots Q (F0 m (pc + 3) ls rest)) : W p l e R s m args below meth c H locs cells slots Q (F0 m pc ls (.int (nI y) :: .int (nI x) :: rest)) :=
  lv_icmp_ge hx hb hdg ht (fun h => kt ((nI_leI h2 h1).mp h)) (fun h => kf (Nat.lt_of_not_le fun q => h ((nI_leI h2 h1).mpr q)))
theorem vd_icmp_gt (hx : p.tables.exec = Jvm.exec) (hb : c.code = cc) {x y : Nat} {off : Int} {tgt : Nat} (hdg : decode cc pc = .ok (.if_icmp .gt off, 3)) (ht : (pc : Int) + off = (tgt : Int)) (h1 : x < 2 ^ 31) (h2 : y < 2 ^ 31)
    (kt : y < x → W p l e R s m args below meth c H locs cells slots Q (F0 m tgt ls rest)) (kf : x ≤ y → W p l e R s m args below meth c H locs cells slots Q (F0 m (pc + 3) ls rest)) : W p l e R s m args below meth c H locs cells slots Q (F0 m pc ls (.int (nI y) :: .int (nI x) :: rest)) :=
  lv_icmp_gt hx hb hdg ht (fun h => kt ((nI_ltI h2 h1).mp h)) (fun h => kf (Nat.le_of_not_lt fun q => h ((nI_ltI h2 h1).mpr q)))
theorem vd_icmp_lt (hx : p.tables.exec = Jvm.exec) (hb : c.code = cc) {x y : Nat} {off : Int} {tgt : Nat} (hdg : decode cc pc = .ok (.if_icmp .lt off, 3)) (ht : (pc : Int) + off = (tgt : Int)) (h1 : x < 2 ^ 31) (h2 : y < 2 ^ 31)
    (kt : x < y → W p l e R s m args below meth c H locs cells slots Q (F0 m tgt ls rest)) (kf : y ≤ x → W p l e R s m args below meth c H locs cells slots Q (F0 m (pc + 3) ls rest)) : W p l e R s m args below meth c H locs cells slots Q (F0 m pc ls (.int (nI y) :: .int (nI x) :: rest)) :=
  lv_icmp_lt hx hb hdg ht (fun h => kt ((nI_ltI h1 h2).mp h)) (fun h => kf (Nat.le_of_not_lt fun q => h ((nI_ltI h1 h2).mpr q)))
theorem vd_icmp_le (hx : p.tables.exec = Jvm.exec) (hb : c.code = cc) {x y : Nat} {off : Int} {tgt : Nat} (hdg : decode cc pc = .ok (.if_icmp .le off, 3)) (ht : (pc : Int) + off = (tgt : Int)) (h1 : x < 2 ^ 31) (h2 : y < 2 ^ 31)
    (kt : x ≤ y → W p l e R s m args below meth c H locs cells slots Q (F0 m tgt ls rest)) (kf : y < x → W p l e R s m args below meth c H locs cells slots Q (F0 m (pc + 3) ls rest)) : W p l e R s m args below meth c H locs cells slots Q (F0 m pc ls (.int (nI y) :: .int (nI x) :: rest)) :=
  lv_icmp_le hx hb hdg ht (fun h => kt ((nI_leI h1 h2).mp h)) (fun h => kf (Nat.lt_of_not_le fun q => h ((nI_leI h1 h2).mpr q)))
theorem vd_icmp_eq (hx : p.tables.exec = Jvm.exec) (hb : c.code = cc) {x y : Nat} {off : Int} {tgt : Nat} (hdg : decode cc pc = .ok (.if_icmp .eq off, 3)) (ht : (pc : Int) + off = (tgt : Int)) (h1 : x < 2 ^ 31) (h2 : y < 2 ^ 31)
    (kt : x = y → W p l e R s m args below meth c H locs cells slots Q (F0 m tgt ls rest)) (kf : x ≠ y → W p l e R s m args below meth c H locs cells slots Q (F0 m (pc + 3) ls rest)) : W p l e R s m args below meth c H locs cells slots Q (F0 m pc ls (.int (nI y) :: .int (nI x) :: rest)) :=
  lv_icmp_eq hx hb hdg ht (fun h => kt ((nI_eq h1 h2).mp h)) (fun h => kf (fun q => h (by rw [q])))
theorem vd_icmp_ne (hx : p.tables.exec = Jvm.exec) (hb : c.code = cc) {x y : Nat} {off : Int} {tgt : Nat} (hdg : decode cc pc = .ok (.if_icmp .ne off, 3)) (ht : (pc : Int) + off = (tgt : Int)) (h1 : x < 2 ^ 31) (h2 : y < 2 ^ 31)
    (kt : x ≠ y → W p l e R s m args below meth c H locs cells slots Q (F0 m tgt ls rest)) (kf : x = y → W p l e R s m args below meth c H locs cells slots Q (F0 m (pc + 3) ls rest)) : W p l e R s m args below meth c H locs cells slots Q (F0 m pc ls (.int (nI y) :: .int (nI x) :: rest)) :=
  lv_icmp_ne hx hb hdg ht (fun h => kt (fun q => h (by rw [q]))) (fun h => kf ((nI_eq h1 h2).mp h))
theorem vd_ifb_eq (hx : p.tables.exec = Jvm.exec) (hb : c.code = cc) {b : Bool} {off : Int} {tgt : Nat} (hdg : decode cc pc = .ok (.ifCond .eq off, 3)) (ht : (pc : Int) + off = (tgt : Int))
    (kt : b = false → W p l e R s m args below meth c H locs cells slots Q (F0 m tgt ls rest)) (kf : b = true → W p l e R s m args below meth c H locs cells slots Q (F0 m (pc + 3) ls rest)) : W p l e R s m args below meth c H locs cells slots Q (F0 m pc ls (.int (vd_b b) :: rest)) := by
  cases b with
  | false => exact lv_if_eq hx hb hdg ht (fun _ => kt rfl) (fun h => absurd (by decide) h)
  | true => exact lv_if_eq hx hb hdg ht (fun h => absurd h (by decide)) (fun _ => kf rfl)
theorem vd_ifb_ne (hx : p.tables.exec = Jvm.exec) (hb : c.code = cc) {b : Bool} {off : Int} {tgt : Nat} (hdg : decode cc pc = .ok (.ifCond .ne off, 3)) (ht : (pc : Int) + off = (tgt : Int))
    (kt : b = true → W p l e R s m args below meth c H locs cells slots Q (F0 m tgt ls rest)) (kf : b = false → W p l e R s m args below meth c H locs cells slots Q (F0 m (pc + 3) ls rest)) : W p l e R s m args below meth c H locs cells slots Q (F0 m pc ls (.int (vd_b b) :: rest)) := by
  cases b with
  | false => exact lv_if_ne hx hb hdg ht (fun h => absurd (by decide) h) (fun _ => kf rfl)
  | true => exact lv_if_ne hx hb hdg ht (fun _ => kt rfl) (fun h => absurd h (by decide))
theorem vd_copy (CX : vd_Cx p s m c cc nL args own D) (HW : vd_WS D ad s K H locs) {j0 j1 sp dp n index : Nat} (h0 : vd_kn j0 = 0) (h1 : vd_kn j1 = 0) (hs : sp + n ≤ vd_ln j0) (hd : dp + n ≤ vd_ln j1) (hu : ∀ b, b < n → K j0 (sp + b) ≤ vd_ub j1) (hlk : Cond.methodLink own index arraycopyName ∈ vd_tbl) (hsz : ls.size = nL)
    (hf : 1 ≤ R.frames) (hlo : (rest.map fun v => v.category).sum + (nativeFrameWords "java/lang/System" "arraycopy" 5 + 11) ≤ R.locals) (hdg : decode cc pc = .ok (.invokestatic index, 3))
    (kk : ∀ (K' : KT) (H' : Heap) (locs' : List Loc), K' = vd_fl K j1 dp n (fun b => K j0 (sp + b)) → vd_WS D ad s K' H' locs' → W p l e R s m args below meth c H' locs' cells slots Q (F0 m (pc + 3) ls rest)) : W p l e R s m args below meth c H locs cells slots Q (F0 m pc ls (.int (nI n) :: .int (nI dp) :: .ref (ad j1) :: .int (nI sp) :: .ref (ad j0) :: rest)) := by
  obtain ⟨hx, hb, hml, hown, hts, hK⟩ := CX
  obtain ⟨hP, hD, hS, hB⟩ := HW
  have l0 := vd_ln_lt j0
  have l1 := vd_ln_lt j1
  have b1 : sp < 2 ^ 31 := by omega
  have b2 : dp < 2 ^ 31 := by omega
  have b3 : n < 2 ^ 31 := by omega
  have c1 : (nI sp).toNatClampNeg = sp := nI_clamp b1
  have c2 : (nI dp).toNatClampNeg = dp := nI_clamp b2
  have c3 : (nI n).toNatClampNeg = n := nI_clamp b3
  refine va_copyi (sp := nI sp) (dp := nI dp) (n := nI n) hx hb (hml.trans hsz.symm) hown (hts _ hlk) (hts _ vd_wNat) (hts _ vd_wSta) (hts _ vd_wIni) hK hP hD hS (6 + j0) (6 + j1) 0 0 (vd_at_i D ad K j0 h0) (vd_at_i D ad K j1 h1) rfl rfl rfl (nI_pos b1) (nI_pos b2) (nI_pos b3) (by rw [c1, c3]; exact hs) (by rw [c2, c3]; exact hd) (fun i _ => rfl) hf hlo hdg (fun H1 locs1 h1' h2' h3 => ?_)
  rw [c1, c2, c3, vd_cpy, vd_set_i D ad K _ j1 h1] at h1' h2'
  refine kk _ H1 locs1 rfl ⟨h1', h2', h3, hB.sa (fun b hb2 => ?_)⟩
  show (if dp ≤ b ∧ b < dp + n then K j0 (sp + (b - dp)) else K j1 b) ≤ vd_ub j1
  split
  · exact hu _ (by omega)
  · exact hB j1 b hb2
/-- calls: the whole world goes to the callee and comes back -/
theorem vd_blind {As : List Value} : FrameBlind (va_Pc As (fun U => vd_St D ad K U)) := fun a U g mk q => by
  obtain ⟨q0, qP, qK, qD, qB⟩ := q
  exact ⟨q0, qP, va_K.moved (u := U) (U := U.calling g mk a) (Vm.Alike.refl U.vm) qK, qD, qB⟩
theorem vd_callVi {y : MethodName} {bytes : ByteArray} {maxL d lo n index b : Nat} {ret : Option FieldType} {As st0 : List Value} {post : Int32 → KT → Prop} (CX : vd_Cx p s m c cc nL args own D) (HW : vd_WS D ad s K H locs)
    (hM : vd_MI l y bytes maxL ret d lo D ad (.ref b :: As) K post) (hy : vd_MO y bytes maxL ret n) (hin : Cond.instanceMethod y ∈ vd_tbl) (hse : Cond.selects y.cls y y ∈ vd_tbl) (hrc : ∃ cell : Cell, H[b]? = some cell ∧ cell.vm.isStatics = false ∧ s.vm.findClass y.cls = some cell.cls) (hlk : Cond.methodLink own index y ∈ vd_tbl)
    (hst : st0 = As.reverse ++ .ref b :: rest) (hn : As.length = n) (hR : d + 1 ≤ R.frames ∧ 8 + (maxL + 11) + lo ≤ R.locals) (hsz : ls.size = nL) (hW : (rest.map fun v => v.category).sum ≤ 8) (hdg : decode cc pc = .ok (.invokevirtual index, 3)) (hcs : cells ≤ R.cells ∧ slots ≤ R.slots)
    (kk : ∀ (r : Int32) (K' : KT) (H' : Heap) (locs' : List Loc), post r K' → vd_WS D ad s K' H' locs' → W p l e R s m args below meth c H' locs' cells slots Q (F0 m (pc + 3) ls (.int r :: rest))) : W p l e R s m args below meth c H locs cells slots Q (F0 m pc ls st0) := by
  obtain ⟨hx, hb, hml, hown, hts, hK⟩ := CX
  obtain ⟨hP, hD, hS, hB⟩ := HW
  obtain ⟨y1, y2, y3, y4, y5⟩ := hy
  have cw : CallW R s args own y.cls index y bytes maxL ret (Cond.code y bytes maxL ret :: vd_tbl) (vd_R d lo) 0 0 n := ⟨callB_of n hts (vd_gd vd_good y4) rfl rfl rfl (hts _ y5) (hts _ hlk) ⟨y1, y2, y3⟩ hR, hts _ hin, hts _ hse⟩
  refine va_calli (va_runV (As := As) (rest := rest) ⟨hx, hb, hml, hown, hts⟩ hM cw ⟨vd_blind, hrc, fun U hU hW => ⟨rfl, by rw [hU]; exact hP, va_K.moved hW.alike hK, hD, hB⟩⟩ rfl hn hsz hst (lv_room hW) hdg hcs) hS (fun q _ h => h) (fun q h => h) (fun r u t H1 locs1 ht hvm hw hB1 hz1 hk1 hS1 => ?_)
  obtain ⟨g1, g2, g3, g4⟩ := hB1
  rw [ht] at g1
  exact kk r u H1 locs1 hw ⟨g1, g3, hS1, g4⟩
theorem vd_callVv {y : MethodName} {bytes : ByteArray} {maxL d lo n index b : Nat} {As st0 : List Value} {post : KT → Prop} (CX : vd_Cx p s m c cc nL args own D) (HW : vd_WS D ad s K H locs)
    (hM : vd_MV l y bytes maxL d lo D ad (.ref b :: As) K post) (hy : vd_MO y bytes maxL none n) (hin : Cond.instanceMethod y ∈ vd_tbl) (hse : Cond.selects y.cls y y ∈ vd_tbl) (hrc : ∃ cell : Cell, H[b]? = some cell ∧ cell.vm.isStatics = false ∧ s.vm.findClass y.cls = some cell.cls) (hlk : Cond.methodLink own index y ∈ vd_tbl)
    (hst : st0 = As.reverse ++ .ref b :: rest) (hn : As.length = n) (hR : d + 1 ≤ R.frames ∧ 8 + (maxL + 11) + lo ≤ R.locals) (hsz : ls.size = nL) (hW : (rest.map fun v => v.category).sum ≤ 8) (hdg : decode cc pc = .ok (.invokevirtual index, 3)) (hcs : cells ≤ R.cells ∧ slots ≤ R.slots)
    (kk : ∀ (K' : KT) (H' : Heap) (locs' : List Loc), post K' → vd_WS D ad s K' H' locs' → W p l e R s m args below meth c H' locs' cells slots Q (F0 m (pc + 3) ls rest)) : W p l e R s m args below meth c H locs cells slots Q (F0 m pc ls st0) := by
  obtain ⟨hx, hb, hml, hown, hts, hK⟩ := CX
  obtain ⟨hP, hD, hS, hB⟩ := HW
  obtain ⟨y1, y2, y3, y4, y5⟩ := hy
  have cw : CallW R s args own y.cls index y bytes maxL none (Cond.code y bytes maxL none :: vd_tbl) (vd_R d lo) 0 0 n := ⟨callB_of n hts (vd_gd vd_good y4) rfl rfl rfl (hts _ y5) (hts _ hlk) ⟨y1, y2, y3⟩ hR, hts _ hin, hts _ hse⟩
  refine va_callv (va_runV (As := As) (rest := rest) ⟨hx, hb, hml, hown, hts⟩ hM cw ⟨vd_blind, hrc, fun U hU hW => ⟨rfl, by rw [hU]; exact hP, va_K.moved hW.alike hK, hD, hB⟩⟩ rfl hn hsz hst (lv_room hW) hdg hcs) hS (fun q _ h => h) (fun q h => h) (fun u t H1 locs1 ht hvm hw hB1 hz1 hk1 hS1 => ?_)
  obtain ⟨g1, g2, g3, g4⟩ := hB1
  rw [ht] at g1
  exact kk u H1 locs1 hw ⟨g1, g3, hS1, g4⟩
theorem vd_callSi {y : MethodName} {bytes : ByteArray} {maxL d lo n index : Nat} {ret : Option FieldType} {As st0 : List Value} {post : Int32 → KT → Prop} (CX : vd_Cx p s m c cc nL args own D) (HW : vd_WS D ad s K H locs)
    (hM : vd_MI l y bytes maxL ret d lo D ad As K post) (hy : vd_MO y bytes maxL ret n) (hstt : Cond.static y ∈ vd_tbl) (hlk : Cond.methodLink own index y ∈ vd_tbl)
    (hst : st0 = As.reverse ++ rest) (hn : As.length = n) (hR : d + 1 ≤ R.frames ∧ 8 + (maxL + 11) + lo ≤ R.locals) (hsz : ls.size = nL) (hW : (rest.map fun v => v.category).sum ≤ 8) (hdg : decode cc pc = .ok (.invokestatic index, 3)) (hcs : cells ≤ R.cells ∧ slots ≤ R.slots)
    (kk : ∀ (r : Int32) (K' : KT) (H' : Heap) (locs' : List Loc), post r K' → vd_WS D ad s K' H' locs' → W p l e R s m args below meth c H' locs' cells slots Q (F0 m (pc + 3) ls (.int r :: rest))) : W p l e R s m args below meth c H locs cells slots Q (F0 m pc ls st0) := by
  obtain ⟨hx, hb, hml, hown, hts, hK⟩ := CX
  obtain ⟨hP, hD, hS, hB⟩ := HW
  obtain ⟨y1, y2, y3, y4, y5⟩ := hy
  have cw : CallB R s args own index y bytes maxL ret (Cond.code y bytes maxL ret :: vd_tbl) (vd_R d lo) 0 0 n ∧ (Cond.static y).before args s = true := ⟨callB_of n hts (vd_gd vd_good y4) rfl rfl rfl (hts _ y5) (hts _ hlk) ⟨y1, y2, y3⟩ hR, hts _ hstt⟩
  refine va_calli (va_runS (As := As) (rest := rest) ⟨hx, hb, hml, hown, hts⟩ hM cw ⟨vd_blind, fun U hU hW => ⟨rfl, by rw [hU]; exact hP, va_K.moved hW.alike hK, hD, hB⟩⟩ rfl hn hsz hst (lv_room hW) hdg hcs) hS (fun q _ h => h) (fun q h => h) (fun r u t H1 locs1 ht hvm hw hB1 hz1 hk1 hS1 => ?_)
  obtain ⟨g1, g2, g3, g4⟩ := hB1
  rw [ht] at g1
  exact kk r u H1 locs1 hw ⟨g1, g3, hS1, g4⟩
end VDR
/-- a method's entry: the walk of its body, with what a return needs -/
theorem vd_entI {l : Launch} {y : MethodName} {bytes : ByteArray} {maxL d lo : Nat} {D : va_G} {ad : Nat → Nat} {As : List Value} {K : KT} {post : Int32 → KT → Prop} (hyn : plainName y.cls = true) (hlen : (lg_sl As).length ≤ maxL) {lv : List (Nat × Value)} (hlv : lv_args 0 As = lv)
    (body : ∀ (p : Program) (e : Env) (s : State) (m : MethodId) (args : Array Value) (below : List Frame) (meth : Method) (c : Code) (ls : Array Slot) (Q : State → Prop), vd_Cx p s m c bytes maxL args y.cls D → lv_has ls maxL lv → ∀ (H : Heap) (locs : List Loc), vd_WS D ad s K H locs →
      (∀ (r : Int32) (K' : KT) (H : Heap) (locs : List Loc) (pc : Nat) (ls : Array Slot), decode bytes pc = .ok (.ireturn, 1) → post r K' → vd_WS D ad s K' H locs → W p l e (vd_R d lo) s m args below meth c H locs 0 0 Q (F0 m pc ls [.int r])) →
      W p l e (vd_R d lo) s m args below meth c H locs 0 0 Q (F0 m 0 ls [])) : vd_MI l y bytes maxL (some .int) d lo D ad As K post := by
  refine Met.ofW (cc := bytes) (maxL := maxL) (ret := some .int) hyn rfl ?_
  intro p e s m args below meth c s₁ B hml hv
  obtain ⟨rfl, hP, hK, hD, hB⟩ := hv
  have hts := atoms_spec (ws := Cond.code y bytes maxL (some .int) :: vd_tbl) B.pre
  have CX : vd_Cx p s m c bytes maxL As.toArray y.cls D := ⟨B.exec, B.bytes, hml, findClass_of_methodNamed B.named, fun w hw => hts w (List.mem_cons_of_mem _ hw), hK⟩
  have hl := lv_entry As (n := maxL) hlen
  rw [lg_entry_eq]
  rw [hlv] at hl
  refine body p e s m As.toArray below meth c _ _ CX hl _ _ ⟨hP, hD, va_S.rf, hB⟩ (fun r K' H locs pc ls hdg hp HW => ?_)
  exact W.iret (v := r) CX.1 CX.2.1 B.returns (fun t ht hW => ⟨⟨r, K', rfl, hp, by rw [ht]; exact HW.1, va_K.moved hW.alike hK, HW.2.1, HW.2.2.2⟩, HW.2.2.1.F ht⟩) HW.2.2.1.2.2 hdg B.notSynchronized
theorem vd_entZ {l : Launch} {y : MethodName} {bytes : ByteArray} {maxL d lo : Nat} {D : va_G} {ad : Nat → Nat} {As : List Value} {K : KT} {post : Int32 → KT → Prop} (hyn : plainName y.cls = true) (hlen : (lg_sl As).length ≤ maxL) {lv : List (Nat × Value)} (hlv : lv_args 0 As = lv)
    (body : ∀ (p : Program) (e : Env) (s : State) (m : MethodId) (args : Array Value) (below : List Frame) (meth : Method) (c : Code) (ls : Array Slot) (Q : State → Prop), vd_Cx p s m c bytes maxL args y.cls D → lv_has ls maxL lv → ∀ (H : Heap) (locs : List Loc), vd_WS D ad s K H locs →
      (∀ (b : Bool) (K' : KT) (H : Heap) (locs : List Loc) (pc : Nat) (ls : Array Slot), decode bytes pc = .ok (.ireturn, 1) → post (vd_b b) K' → vd_WS D ad s K' H locs → W p l e (vd_R d lo) s m args below meth c H locs 0 0 Q (F0 m pc ls [.int (vd_b b)])) →
      W p l e (vd_R d lo) s m args below meth c H locs 0 0 Q (F0 m 0 ls [])) : vd_MI l y bytes maxL (some .boolean) d lo D ad As K post := by
  refine Met.ofW (cc := bytes) (maxL := maxL) (ret := some .boolean) hyn rfl ?_
  intro p e s m args below meth c s₁ B hml hv
  obtain ⟨rfl, hP, hK, hD, hB⟩ := hv
  have hts := atoms_spec (ws := Cond.code y bytes maxL (some .boolean) :: vd_tbl) B.pre
  have CX : vd_Cx p s m c bytes maxL As.toArray y.cls D := ⟨B.exec, B.bytes, hml, findClass_of_methodNamed B.named, fun w hw => hts w (List.mem_cons_of_mem _ hw), hK⟩
  have hl := lv_entry As (n := maxL) hlen
  rw [lg_entry_eq]
  rw [hlv] at hl
  refine body p e s m As.toArray below meth c _ _ CX hl _ _ ⟨hP, hD, va_S.rf, hB⟩ (fun r K' H locs pc ls hdg hp HW => ?_)
  exact W.zret (v := vd_b r) (ty := .boolean) CX.1 CX.2.1 B.returns (by cases r <;> decide) (fun t ht hW => ⟨⟨vd_b r, K', rfl, hp, by rw [ht]; exact HW.1, va_K.moved hW.alike hK, HW.2.1, HW.2.2.2⟩, HW.2.2.1.F ht⟩) HW.2.2.1.2.2 hdg B.notSynchronized
theorem vd_entV {l : Launch} {y : MethodName} {bytes : ByteArray} {maxL d lo : Nat} {D : va_G} {ad : Nat → Nat} {As : List Value} {K : KT} {post : KT → Prop} (hyn : plainName y.cls = true) (hlen : (lg_sl As).length ≤ maxL) {lv : List (Nat × Value)} (hlv : lv_args 0 As = lv)
    (body : ∀ (p : Program) (e : Env) (s : State) (m : MethodId) (args : Array Value) (below : List Frame) (meth : Method) (c : Code) (ls : Array Slot) (Q : State → Prop), vd_Cx p s m c bytes maxL args y.cls D → lv_has ls maxL lv → ∀ (H : Heap) (locs : List Loc), vd_WS D ad s K H locs →
      (∀ (K' : KT) (H : Heap) (locs : List Loc) (pc : Nat) (ls : Array Slot), decode bytes pc = .ok (.return_, 1) → post K' → vd_WS D ad s K' H locs → W p l e (vd_R d lo) s m args below meth c H locs 0 0 Q (F0 m pc ls [])) →
      W p l e (vd_R d lo) s m args below meth c H locs 0 0 Q (F0 m 0 ls [])) : vd_MV l y bytes maxL d lo D ad As K post := by
  refine Met.ofW (cc := bytes) (maxL := maxL) (ret := none) hyn rfl ?_
  intro p e s m args below meth c s₁ B hml hv
  obtain ⟨rfl, hP, hK, hD, hB⟩ := hv
  have hts := atoms_spec (ws := Cond.code y bytes maxL none :: vd_tbl) B.pre
  have CX : vd_Cx p s m c bytes maxL As.toArray y.cls D := ⟨B.exec, B.bytes, hml, findClass_of_methodNamed B.named, fun w hw => hts w (List.mem_cons_of_mem _ hw), hK⟩
  have hl := lv_entry As (n := maxL) hlen
  rw [lg_entry_eq]
  rw [hlv] at hl
  refine body p e s m As.toArray below meth c _ _ CX hl _ _ ⟨hP, hD, va_S.rf, hB⟩ (fun K' H locs pc ls hdg hp HW => ?_)
  exact W.vret CX.1 CX.2.1 B.returns (fun t ht hW => ⟨⟨K', rfl, hp, by rw [ht]; exact HW.1, va_K.moved hW.alike hK, HW.2.1, HW.2.2.2⟩, HW.2.2.1.F ht⟩) HW.2.2.1.2.2 hdg B.notSynchronized
section VDF
variable {p : Program} {l : Launch} {e : Env} {R : Room} {s : State} {m : MethodId} {args : Array Value} {below : List Frame} {meth : Method} {c : Code} {H : Heap} {locs : List Loc} {Q : State → Prop}
variable {cells slots : Nat} {cc : ByteArray} {pc nL idx : Nat} {ls : Array Slot} {rest : List Value} {own : String} {D : va_G} {ad : Nat → Nat} {K : KT}
theorem vr_30 (CX : vd_Cx p s m c cc nL args own D) (HW : vd_WS D ad s K H locs) : ∃ cell : Cell, H[ad 30]? = some cell ∧ cell.vm.isStatics = false ∧ s.vm.findClass R_D = some cell.cls := va_recv CX.2.2.2.2.2 HW.1 (ci := 3) (q0 := 0) rfl rfl
theorem vg_30_store (CX : vd_Cx p s m c cc nL args own D) (HW : vd_WS D ad s K H locs) (hlk : Cond.fieldLink own idx "VersionDepot" "store" "LVersionDepot$Store;" ∈ vd_tbl) (hdg : decode cc pc = .ok (.getfield idx, 3)) (kk : W p l e R s m args below meth c H locs cells slots Q (F0 m (pc + 3) ls (.ref (ad 31) :: rest))) : W p l e R s m args below meth c H locs cells slots Q (F0 m pc ls (.ref (ad 30) :: rest)) :=
  va_get (D := D) (ci := 3) (v := .ref (ad 31)) (C := R_D) (T := T_D) (N := 8) CX.1 CX.2.1 CX.2.2.2.2.1 in_D CX.2.2.2.1 CX.2.2.2.2.2 HW.1 0 rfl rfl 0 (by decide) (CX.2.2.2.2.1 _ hlk) (fun _ h9 => h9) rfl hdg kk
theorem vg_30_work (CX : vd_Cx p s m c cc nL args own D) (HW : vd_WS D ad s K H locs) (hlk : Cond.fieldLink own idx "VersionDepot" "work" "[I" ∈ vd_tbl) (hdg : decode cc pc = .ok (.getfield idx, 3)) (kk : W p l e R s m args below meth c H locs cells slots Q (F0 m (pc + 3) ls (.ref (ad 0) :: rest))) : W p l e R s m args below meth c H locs cells slots Q (F0 m pc ls (.ref (ad 30) :: rest)) :=
  va_get (D := D) (ci := 3) (v := .ref (ad 0)) (C := R_D) (T := T_D) (N := 8) CX.1 CX.2.1 CX.2.2.2.2.1 in_D CX.2.2.2.1 CX.2.2.2.2.2 HW.1 0 rfl rfl 1 (by decide) (CX.2.2.2.2.1 _ hlk) (fun _ h9 => h9) rfl hdg kk
theorem vg_30_index (CX : vd_Cx p s m c cc nL args own D) (HW : vd_WS D ad s K H locs) (hlk : Cond.fieldLink own idx "VersionDepot" "index" "[I" ∈ vd_tbl) (hdg : decode cc pc = .ok (.getfield idx, 3)) (kk : W p l e R s m args below meth c H locs cells slots Q (F0 m (pc + 3) ls (.ref (ad 1) :: rest))) : W p l e R s m args below meth c H locs cells slots Q (F0 m pc ls (.ref (ad 30) :: rest)) :=
  va_get (D := D) (ci := 3) (v := .ref (ad 1)) (C := R_D) (T := T_D) (N := 8) CX.1 CX.2.1 CX.2.2.2.2.1 in_D CX.2.2.2.1 CX.2.2.2.2.2 HW.1 0 rfl rfl 2 (by decide) (CX.2.2.2.2.1 _ hlk) (fun _ h9 => h9) rfl hdg kk
theorem vg_30_mixture (CX : vd_Cx p s m c cc nL args own D) (HW : vd_WS D ad s K H locs) (hlk : Cond.fieldLink own idx "VersionDepot" "mixture" "[I" ∈ vd_tbl) (hdg : decode cc pc = .ok (.getfield idx, 3)) (kk : W p l e R s m args below meth c H locs cells slots Q (F0 m (pc + 3) ls (.ref (ad 2) :: rest))) : W p l e R s m args below meth c H locs cells slots Q (F0 m pc ls (.ref (ad 30) :: rest)) :=
  va_get (D := D) (ci := 3) (v := .ref (ad 2)) (C := R_D) (T := T_D) (N := 8) CX.1 CX.2.1 CX.2.2.2.2.1 in_D CX.2.2.2.1 CX.2.2.2.2.2 HW.1 0 rfl rfl 3 (by decide) (CX.2.2.2.2.1 _ hlk) (fun _ h9 => h9) rfl hdg kk
theorem vg_30_tips (CX : vd_Cx p s m c cc nL args own D) (HW : vd_WS D ad s K H locs) (hlk : Cond.fieldLink own idx "VersionDepot" "tips" "[I" ∈ vd_tbl) (hdg : decode cc pc = .ok (.getfield idx, 3)) (kk : W p l e R s m args below meth c H locs cells slots Q (F0 m (pc + 3) ls (.ref (ad 3) :: rest))) : W p l e R s m args below meth c H locs cells slots Q (F0 m pc ls (.ref (ad 30) :: rest)) :=
  va_get (D := D) (ci := 3) (v := .ref (ad 3)) (C := R_D) (T := T_D) (N := 8) CX.1 CX.2.1 CX.2.2.2.2.1 in_D CX.2.2.2.1 CX.2.2.2.2.2 HW.1 0 rfl rfl 4 (by decide) (CX.2.2.2.2.1 _ hlk) (fun _ h9 => h9) rfl hdg kk
theorem vg_30_head (CX : vd_Cx p s m c cc nL args own D) (HW : vd_WS D ad s K H locs) (hlk : Cond.fieldLink own idx "VersionDepot" "head" "I" ∈ vd_tbl) (hdg : decode cc pc = .ok (.getfield idx, 3)) (kk : K 40 0 ≤ vd_ub 40 → W p l e R s m args below meth c H locs cells slots Q (F0 m (pc + 3) ls (.int (nI (K 40 0)) :: rest))) : W p l e R s m args below meth c H locs cells slots Q (F0 m pc ls (.ref (ad 30) :: rest)) :=
  va_get (D := D) (ci := 3) (v := .int (nI (K 40 0))) (C := R_D) (T := T_D) (N := 8) CX.1 CX.2.1 CX.2.2.2.2.1 in_D CX.2.2.2.1 CX.2.2.2.2.2 HW.1 0 rfl rfl 5 (by decide) (CX.2.2.2.2.1 _ hlk) (fun _ h9 => h9) rfl hdg (kk (HW.2.2.2 40 0 (by decide)))
theorem vt_30_head (CX : vd_Cx p s m c cc nL args own D) (HW : vd_WS D ad s K H locs) {x : Nat} (hu : x ≤ vd_ub 40) (hlk : Cond.fieldLink own idx "VersionDepot" "head" "I" ∈ vd_tbl) (hdg : decode cc pc = .ok (.putfield idx, 3)) (kk : ∀ (K' : KT) (H' : Heap) (locs' : List Loc), K' = vd_st K 40 0 x → vd_WS D ad s K' H' locs' → W p l e R s m args below meth c H' locs' cells slots Q (F0 m (pc + 3) ls rest)) : W p l e R s m args below meth c H locs cells slots Q (F0 m pc ls (.int (nI x) :: .ref (ad 30) :: rest)) :=
  va_put (D := D) (ci := 3) (v := .int (nI x)) (ty := .int) (C := R_D) (T := T_D) (N := 8) CX.1 CX.2.1 CX.2.2.2.2.1 in_D ty_D tyok_D nm_D CX.2.2.2.1 CX.2.2.2.2.2 HW.1 HW.2.1 HW.2.2.1 0 rfl rfl 5 (by decide) (CX.2.2.2.2.1 _ hlk) (fun _ h9 => h9) rfl (by decide +kernel) rfl rfl (Nat.le_of_ble_eq_true rfl) hdg (fun H1 locs1 h1 h2 h3 => kk _ H1 locs1 rfl ⟨h1, h2, h3, HW.2.2.2.st hu⟩)
theorem vg_30_merging (CX : vd_Cx p s m c cc nL args own D) (HW : vd_WS D ad s K H locs) (hlk : Cond.fieldLink own idx "VersionDepot" "merging" "I" ∈ vd_tbl) (hdg : decode cc pc = .ok (.getfield idx, 3)) (kk : K 41 0 ≤ vd_ub 41 → W p l e R s m args below meth c H locs cells slots Q (F0 m (pc + 3) ls (.int (nI (K 41 0)) :: rest))) : W p l e R s m args below meth c H locs cells slots Q (F0 m pc ls (.ref (ad 30) :: rest)) :=
  va_get (D := D) (ci := 3) (v := .int (nI (K 41 0))) (C := R_D) (T := T_D) (N := 8) CX.1 CX.2.1 CX.2.2.2.2.1 in_D CX.2.2.2.1 CX.2.2.2.2.2 HW.1 0 rfl rfl 6 (by decide) (CX.2.2.2.2.1 _ hlk) (fun _ h9 => h9) rfl hdg (kk (HW.2.2.2 41 0 (by decide)))
theorem vt_30_merging (CX : vd_Cx p s m c cc nL args own D) (HW : vd_WS D ad s K H locs) {x : Nat} (hu : x ≤ vd_ub 41) (hlk : Cond.fieldLink own idx "VersionDepot" "merging" "I" ∈ vd_tbl) (hdg : decode cc pc = .ok (.putfield idx, 3)) (kk : ∀ (K' : KT) (H' : Heap) (locs' : List Loc), K' = vd_st K 41 0 x → vd_WS D ad s K' H' locs' → W p l e R s m args below meth c H' locs' cells slots Q (F0 m (pc + 3) ls rest)) : W p l e R s m args below meth c H locs cells slots Q (F0 m pc ls (.int (nI x) :: .ref (ad 30) :: rest)) :=
  va_put (D := D) (ci := 3) (v := .int (nI x)) (ty := .int) (C := R_D) (T := T_D) (N := 8) CX.1 CX.2.1 CX.2.2.2.2.1 in_D ty_D tyok_D nm_D CX.2.2.2.1 CX.2.2.2.2.2 HW.1 HW.2.1 HW.2.2.1 0 rfl rfl 6 (by decide) (CX.2.2.2.2.1 _ hlk) (fun _ h9 => h9) rfl (by decide +kernel) rfl rfl (Nat.le_of_ble_eq_true rfl) hdg (fun H1 locs1 h1 h2 h3 => kk _ H1 locs1 rfl ⟨h1, h2, h3, HW.2.2.2.st hu⟩)
theorem vg_30_clashes (CX : vd_Cx p s m c cc nL args own D) (HW : vd_WS D ad s K H locs) (hlk : Cond.fieldLink own idx "VersionDepot" "clashes" "I" ∈ vd_tbl) (hdg : decode cc pc = .ok (.getfield idx, 3)) (kk : K 42 0 ≤ vd_ub 42 → W p l e R s m args below meth c H locs cells slots Q (F0 m (pc + 3) ls (.int (nI (K 42 0)) :: rest))) : W p l e R s m args below meth c H locs cells slots Q (F0 m pc ls (.ref (ad 30) :: rest)) :=
  va_get (D := D) (ci := 3) (v := .int (nI (K 42 0))) (C := R_D) (T := T_D) (N := 8) CX.1 CX.2.1 CX.2.2.2.2.1 in_D CX.2.2.2.1 CX.2.2.2.2.2 HW.1 0 rfl rfl 7 (by decide) (CX.2.2.2.2.1 _ hlk) (fun _ h9 => h9) rfl hdg (kk (HW.2.2.2 42 0 (by decide)))
theorem vt_30_clashes (CX : vd_Cx p s m c cc nL args own D) (HW : vd_WS D ad s K H locs) {x : Nat} (hu : x ≤ vd_ub 42) (hlk : Cond.fieldLink own idx "VersionDepot" "clashes" "I" ∈ vd_tbl) (hdg : decode cc pc = .ok (.putfield idx, 3)) (kk : ∀ (K' : KT) (H' : Heap) (locs' : List Loc), K' = vd_st K 42 0 x → vd_WS D ad s K' H' locs' → W p l e R s m args below meth c H' locs' cells slots Q (F0 m (pc + 3) ls rest)) : W p l e R s m args below meth c H locs cells slots Q (F0 m pc ls (.int (nI x) :: .ref (ad 30) :: rest)) :=
  va_put (D := D) (ci := 3) (v := .int (nI x)) (ty := .int) (C := R_D) (T := T_D) (N := 8) CX.1 CX.2.1 CX.2.2.2.2.1 in_D ty_D tyok_D nm_D CX.2.2.2.1 CX.2.2.2.2.2 HW.1 HW.2.1 HW.2.2.1 0 rfl rfl 7 (by decide) (CX.2.2.2.2.1 _ hlk) (fun _ h9 => h9) rfl (by decide +kernel) rfl rfl (Nat.le_of_ble_eq_true rfl) hdg (fun H1 locs1 h1 h2 h3 => kk _ H1 locs1 rfl ⟨h1, h2, h3, HW.2.2.2.st hu⟩)
theorem vr_31 (CX : vd_Cx p s m c cc nL args own D) (HW : vd_WS D ad s K H locs) : ∃ cell : Cell, H[ad 31]? = some cell ∧ cell.vm.isStatics = false ∧ s.vm.findClass R_S = some cell.cls := va_recv CX.2.2.2.2.2 HW.1 (ci := 2) (q0 := 1) rfl rfl
theorem vg_31_blobs (CX : vd_Cx p s m c cc nL args own D) (HW : vd_WS D ad s K H locs) (hlk : Cond.fieldLink own idx "VersionDepot$Store" "blobs" "LVersionDepot$Blobs;" ∈ vd_tbl) (hdg : decode cc pc = .ok (.getfield idx, 3)) (kk : W p l e R s m args below meth c H locs cells slots Q (F0 m (pc + 3) ls (.ref (ad 32) :: rest))) : W p l e R s m args below meth c H locs cells slots Q (F0 m pc ls (.ref (ad 31) :: rest)) :=
  va_get (D := D) (ci := 2) (v := .ref (ad 32)) (C := R_S) (T := T_S) (N := 10) CX.1 CX.2.1 CX.2.2.2.2.1 in_S CX.2.2.2.1 CX.2.2.2.2.2 HW.1 1 rfl rfl 0 (by decide) (CX.2.2.2.2.1 _ hlk) (fun _ h9 => h9) rfl hdg kk
theorem vg_31_folders (CX : vd_Cx p s m c cc nL args own D) (HW : vd_WS D ad s K H locs) (hlk : Cond.fieldLink own idx "VersionDepot$Store" "folders" "LVersionDepot$Rows;" ∈ vd_tbl) (hdg : decode cc pc = .ok (.getfield idx, 3)) (kk : W p l e R s m args below meth c H locs cells slots Q (F0 m (pc + 3) ls (.ref (ad 33) :: rest))) : W p l e R s m args below meth c H locs cells slots Q (F0 m pc ls (.ref (ad 31) :: rest)) :=
  va_get (D := D) (ci := 2) (v := .ref (ad 33)) (C := R_S) (T := T_S) (N := 10) CX.1 CX.2.1 CX.2.2.2.2.1 in_S CX.2.2.2.1 CX.2.2.2.2.2 HW.1 1 rfl rfl 1 (by decide) (CX.2.2.2.2.1 _ hlk) (fun _ h9 => h9) rfl hdg kk
theorem vg_31_roots (CX : vd_Cx p s m c cc nL args own D) (HW : vd_WS D ad s K H locs) (hlk : Cond.fieldLink own idx "VersionDepot$Store" "roots" "LVersionDepot$Rows;" ∈ vd_tbl) (hdg : decode cc pc = .ok (.getfield idx, 3)) (kk : W p l e R s m args below meth c H locs cells slots Q (F0 m (pc + 3) ls (.ref (ad 34) :: rest))) : W p l e R s m args below meth c H locs cells slots Q (F0 m pc ls (.ref (ad 31) :: rest)) :=
  va_get (D := D) (ci := 2) (v := .ref (ad 34)) (C := R_S) (T := T_S) (N := 10) CX.1 CX.2.1 CX.2.2.2.2.1 in_S CX.2.2.2.1 CX.2.2.2.2.2 HW.1 1 rfl rfl 2 (by decide) (CX.2.2.2.2.1 _ hlk) (fun _ h9 => h9) rfl hdg kk
theorem vg_31_rootOf (CX : vd_Cx p s m c cc nL args own D) (HW : vd_WS D ad s K H locs) (hlk : Cond.fieldLink own idx "VersionDepot$Store" "rootOf" "[I" ∈ vd_tbl) (hdg : decode cc pc = .ok (.getfield idx, 3)) (kk : W p l e R s m args below meth c H locs cells slots Q (F0 m (pc + 3) ls (.ref (ad 4) :: rest))) : W p l e R s m args below meth c H locs cells slots Q (F0 m pc ls (.ref (ad 31) :: rest)) :=
  va_get (D := D) (ci := 2) (v := .ref (ad 4)) (C := R_S) (T := T_S) (N := 10) CX.1 CX.2.1 CX.2.2.2.2.1 in_S CX.2.2.2.1 CX.2.2.2.2.2 HW.1 1 rfl rfl 3 (by decide) (CX.2.2.2.2.1 _ hlk) (fun _ h9 => h9) rfl hdg kk
theorem vg_31_firstParents (CX : vd_Cx p s m c cc nL args own D) (HW : vd_WS D ad s K H locs) (hlk : Cond.fieldLink own idx "VersionDepot$Store" "firstParents" "[I" ∈ vd_tbl) (hdg : decode cc pc = .ok (.getfield idx, 3)) (kk : W p l e R s m args below meth c H locs cells slots Q (F0 m (pc + 3) ls (.ref (ad 5) :: rest))) : W p l e R s m args below meth c H locs cells slots Q (F0 m pc ls (.ref (ad 31) :: rest)) :=
  va_get (D := D) (ci := 2) (v := .ref (ad 5)) (C := R_S) (T := T_S) (N := 10) CX.1 CX.2.1 CX.2.2.2.2.1 in_S CX.2.2.2.1 CX.2.2.2.2.2 HW.1 1 rfl rfl 4 (by decide) (CX.2.2.2.2.1 _ hlk) (fun _ h9 => h9) rfl hdg kk
theorem vg_31_secondParents (CX : vd_Cx p s m c cc nL args own D) (HW : vd_WS D ad s K H locs) (hlk : Cond.fieldLink own idx "VersionDepot$Store" "secondParents" "[I" ∈ vd_tbl) (hdg : decode cc pc = .ok (.getfield idx, 3)) (kk : W p l e R s m args below meth c H locs cells slots Q (F0 m (pc + 3) ls (.ref (ad 6) :: rest))) : W p l e R s m args below meth c H locs cells slots Q (F0 m pc ls (.ref (ad 31) :: rest)) :=
  va_get (D := D) (ci := 2) (v := .ref (ad 6)) (C := R_S) (T := T_S) (N := 10) CX.1 CX.2.1 CX.2.2.2.2.1 in_S CX.2.2.2.1 CX.2.2.2.2.2 HW.1 1 rfl rfl 5 (by decide) (CX.2.2.2.2.1 _ hlk) (fun _ h9 => h9) rfl hdg kk
theorem vg_31_ancestors (CX : vd_Cx p s m c cc nL args own D) (HW : vd_WS D ad s K H locs) (hlk : Cond.fieldLink own idx "VersionDepot$Store" "ancestors" "[I" ∈ vd_tbl) (hdg : decode cc pc = .ok (.getfield idx, 3)) (kk : W p l e R s m args below meth c H locs cells slots Q (F0 m (pc + 3) ls (.ref (ad 7) :: rest))) : W p l e R s m args below meth c H locs cells slots Q (F0 m pc ls (.ref (ad 31) :: rest)) :=
  va_get (D := D) (ci := 2) (v := .ref (ad 7)) (C := R_S) (T := T_S) (N := 10) CX.1 CX.2.1 CX.2.2.2.2.1 in_S CX.2.2.2.1 CX.2.2.2.2.2 HW.1 1 rfl rfl 6 (by decide) (CX.2.2.2.2.1 _ hlk) (fun _ h9 => h9) rfl hdg kk
theorem vg_31_folderRow (CX : vd_Cx p s m c cc nL args own D) (HW : vd_WS D ad s K H locs) (hlk : Cond.fieldLink own idx "VersionDepot$Store" "folderRow" "[I" ∈ vd_tbl) (hdg : decode cc pc = .ok (.getfield idx, 3)) (kk : W p l e R s m args below meth c H locs cells slots Q (F0 m (pc + 3) ls (.ref (ad 8) :: rest))) : W p l e R s m args below meth c H locs cells slots Q (F0 m pc ls (.ref (ad 31) :: rest)) :=
  va_get (D := D) (ci := 2) (v := .ref (ad 8)) (C := R_S) (T := T_S) (N := 10) CX.1 CX.2.1 CX.2.2.2.2.1 in_S CX.2.2.2.1 CX.2.2.2.2.2 HW.1 1 rfl rfl 7 (by decide) (CX.2.2.2.2.1 _ hlk) (fun _ h9 => h9) rfl hdg kk
theorem vg_31_made (CX : vd_Cx p s m c cc nL args own D) (HW : vd_WS D ad s K H locs) (hlk : Cond.fieldLink own idx "VersionDepot$Store" "made" "I" ∈ vd_tbl) (hdg : decode cc pc = .ok (.getfield idx, 3)) (kk : K 43 0 ≤ vd_ub 43 → W p l e R s m args below meth c H locs cells slots Q (F0 m (pc + 3) ls (.int (nI (K 43 0)) :: rest))) : W p l e R s m args below meth c H locs cells slots Q (F0 m pc ls (.ref (ad 31) :: rest)) :=
  va_get (D := D) (ci := 2) (v := .int (nI (K 43 0))) (C := R_S) (T := T_S) (N := 10) CX.1 CX.2.1 CX.2.2.2.2.1 in_S CX.2.2.2.1 CX.2.2.2.2.2 HW.1 1 rfl rfl 8 (by decide) (CX.2.2.2.2.1 _ hlk) (fun _ h9 => h9) rfl hdg (kk (HW.2.2.2 43 0 (by decide)))
theorem vt_31_made (CX : vd_Cx p s m c cc nL args own D) (HW : vd_WS D ad s K H locs) {x : Nat} (hu : x ≤ vd_ub 43) (hlk : Cond.fieldLink own idx "VersionDepot$Store" "made" "I" ∈ vd_tbl) (hdg : decode cc pc = .ok (.putfield idx, 3)) (kk : ∀ (K' : KT) (H' : Heap) (locs' : List Loc), K' = vd_st K 43 0 x → vd_WS D ad s K' H' locs' → W p l e R s m args below meth c H' locs' cells slots Q (F0 m (pc + 3) ls rest)) : W p l e R s m args below meth c H locs cells slots Q (F0 m pc ls (.int (nI x) :: .ref (ad 31) :: rest)) :=
  va_put (D := D) (ci := 2) (v := .int (nI x)) (ty := .int) (C := R_S) (T := T_S) (N := 10) CX.1 CX.2.1 CX.2.2.2.2.1 in_S ty_S tyok_S nm_S CX.2.2.2.1 CX.2.2.2.2.2 HW.1 HW.2.1 HW.2.2.1 1 rfl rfl 8 (by decide) (CX.2.2.2.2.1 _ hlk) (fun _ h9 => h9) rfl (by decide +kernel) rfl rfl (Nat.le_of_ble_eq_true rfl) hdg (fun H1 locs1 h1 h2 h3 => kk _ H1 locs1 rfl ⟨h1, h2, h3, HW.2.2.2.st hu⟩)
theorem vg_31_stored (CX : vd_Cx p s m c cc nL args own D) (HW : vd_WS D ad s K H locs) (hlk : Cond.fieldLink own idx "VersionDepot$Store" "stored" "I" ∈ vd_tbl) (hdg : decode cc pc = .ok (.getfield idx, 3)) (kk : K 44 0 ≤ vd_ub 44 → W p l e R s m args below meth c H locs cells slots Q (F0 m (pc + 3) ls (.int (nI (K 44 0)) :: rest))) : W p l e R s m args below meth c H locs cells slots Q (F0 m pc ls (.ref (ad 31) :: rest)) :=
  va_get (D := D) (ci := 2) (v := .int (nI (K 44 0))) (C := R_S) (T := T_S) (N := 10) CX.1 CX.2.1 CX.2.2.2.2.1 in_S CX.2.2.2.1 CX.2.2.2.2.2 HW.1 1 rfl rfl 9 (by decide) (CX.2.2.2.2.1 _ hlk) (fun _ h9 => h9) rfl hdg (kk (HW.2.2.2 44 0 (by decide)))
theorem vt_31_stored (CX : vd_Cx p s m c cc nL args own D) (HW : vd_WS D ad s K H locs) {x : Nat} (hu : x ≤ vd_ub 44) (hlk : Cond.fieldLink own idx "VersionDepot$Store" "stored" "I" ∈ vd_tbl) (hdg : decode cc pc = .ok (.putfield idx, 3)) (kk : ∀ (K' : KT) (H' : Heap) (locs' : List Loc), K' = vd_st K 44 0 x → vd_WS D ad s K' H' locs' → W p l e R s m args below meth c H' locs' cells slots Q (F0 m (pc + 3) ls rest)) : W p l e R s m args below meth c H locs cells slots Q (F0 m pc ls (.int (nI x) :: .ref (ad 31) :: rest)) :=
  va_put (D := D) (ci := 2) (v := .int (nI x)) (ty := .int) (C := R_S) (T := T_S) (N := 10) CX.1 CX.2.1 CX.2.2.2.2.1 in_S ty_S tyok_S nm_S CX.2.2.2.1 CX.2.2.2.2.2 HW.1 HW.2.1 HW.2.2.1 1 rfl rfl 9 (by decide) (CX.2.2.2.2.1 _ hlk) (fun _ h9 => h9) rfl (by decide +kernel) rfl rfl (Nat.le_of_ble_eq_true rfl) hdg (fun H1 locs1 h1 h2 h3 => kk _ H1 locs1 rfl ⟨h1, h2, h3, HW.2.2.2.st hu⟩)
theorem vr_32 (CX : vd_Cx p s m c cc nL args own D) (HW : vd_WS D ad s K H locs) : ∃ cell : Cell, H[ad 32]? = some cell ∧ cell.vm.isStatics = false ∧ s.vm.findClass R_B = some cell.cls := va_recv CX.2.2.2.2.2 HW.1 (ci := 0) (q0 := 2) rfl rfl
theorem vg_32_bits (CX : vd_Cx p s m c cc nL args own D) (HW : vd_WS D ad s K H locs) (hlk : Cond.fieldLink own idx "VersionDepot$Blobs" "bits" "[J" ∈ vd_tbl) (hdg : decode cc pc = .ok (.getfield idx, 3)) (kk : W p l e R s m args below meth c H locs cells slots Q (F0 m (pc + 3) ls (.ref (ad 9) :: rest))) : W p l e R s m args below meth c H locs cells slots Q (F0 m pc ls (.ref (ad 32) :: rest)) :=
  va_get (D := D) (ci := 0) (v := .ref (ad 9)) (C := R_B) (T := T_B) (N := 1) CX.1 CX.2.1 CX.2.2.2.2.1 in_B CX.2.2.2.1 CX.2.2.2.2.2 HW.1 2 rfl rfl 0 (by decide) (CX.2.2.2.2.1 _ hlk) (fun _ h9 => h9) rfl hdg kk
theorem vr_33 (CX : vd_Cx p s m c cc nL args own D) (HW : vd_WS D ad s K H locs) : ∃ cell : Cell, H[ad 33]? = some cell ∧ cell.vm.isStatics = false ∧ s.vm.findClass R_W = some cell.cls := va_recv CX.2.2.2.2.2 HW.1 (ci := 1) (q0 := 3) rfl rfl
theorem vg_33_numbers (CX : vd_Cx p s m c cc nL args own D) (HW : vd_WS D ad s K H locs) (hlk : Cond.fieldLink own idx "VersionDepot$Rows" "numbers" "[I" ∈ vd_tbl) (hdg : decode cc pc = .ok (.getfield idx, 3)) (kk : W p l e R s m args below meth c H locs cells slots Q (F0 m (pc + 3) ls (.ref (ad 10) :: rest))) : W p l e R s m args below meth c H locs cells slots Q (F0 m pc ls (.ref (ad 33) :: rest)) :=
  va_get (D := D) (ci := 1) (v := .ref (ad 10)) (C := R_W) (T := T_W) (N := 3) CX.1 CX.2.1 CX.2.2.2.2.1 in_W CX.2.2.2.1 CX.2.2.2.2.2 HW.1 3 rfl rfl 0 (by decide) (CX.2.2.2.2.1 _ hlk) (fun _ h9 => h9) rfl hdg kk
theorem vg_33_stored (CX : vd_Cx p s m c cc nL args own D) (HW : vd_WS D ad s K H locs) (hlk : Cond.fieldLink own idx "VersionDepot$Rows" "stored" "[Z" ∈ vd_tbl) (hdg : decode cc pc = .ok (.getfield idx, 3)) (kk : W p l e R s m args below meth c H locs cells slots Q (F0 m (pc + 3) ls (.ref (ad 11) :: rest))) : W p l e R s m args below meth c H locs cells slots Q (F0 m pc ls (.ref (ad 33) :: rest)) :=
  va_get (D := D) (ci := 1) (v := .ref (ad 11)) (C := R_W) (T := T_W) (N := 3) CX.1 CX.2.1 CX.2.2.2.2.1 in_W CX.2.2.2.1 CX.2.2.2.2.2 HW.1 3 rfl rfl 1 (by decide) (CX.2.2.2.2.1 _ hlk) (fun _ h9 => h9) rfl hdg kk
theorem vg_33_last (CX : vd_Cx p s m c cc nL args own D) (HW : vd_WS D ad s K H locs) (hlk : Cond.fieldLink own idx "VersionDepot$Rows" "last" "I" ∈ vd_tbl) (hdg : decode cc pc = .ok (.getfield idx, 3)) (kk : K 45 0 ≤ vd_ub 45 → W p l e R s m args below meth c H locs cells slots Q (F0 m (pc + 3) ls (.int (nI (K 45 0)) :: rest))) : W p l e R s m args below meth c H locs cells slots Q (F0 m pc ls (.ref (ad 33) :: rest)) :=
  va_get (D := D) (ci := 1) (v := .int (nI (K 45 0))) (C := R_W) (T := T_W) (N := 3) CX.1 CX.2.1 CX.2.2.2.2.1 in_W CX.2.2.2.1 CX.2.2.2.2.2 HW.1 3 rfl rfl 2 (by decide) (CX.2.2.2.2.1 _ hlk) (fun _ h9 => h9) rfl hdg (kk (HW.2.2.2 45 0 (by decide)))
theorem vt_33_last (CX : vd_Cx p s m c cc nL args own D) (HW : vd_WS D ad s K H locs) {x : Nat} (hu : x ≤ vd_ub 45) (hlk : Cond.fieldLink own idx "VersionDepot$Rows" "last" "I" ∈ vd_tbl) (hdg : decode cc pc = .ok (.putfield idx, 3)) (kk : ∀ (K' : KT) (H' : Heap) (locs' : List Loc), K' = vd_st K 45 0 x → vd_WS D ad s K' H' locs' → W p l e R s m args below meth c H' locs' cells slots Q (F0 m (pc + 3) ls rest)) : W p l e R s m args below meth c H locs cells slots Q (F0 m pc ls (.int (nI x) :: .ref (ad 33) :: rest)) :=
  va_put (D := D) (ci := 1) (v := .int (nI x)) (ty := .int) (C := R_W) (T := T_W) (N := 3) CX.1 CX.2.1 CX.2.2.2.2.1 in_W ty_W tyok_W nm_W CX.2.2.2.1 CX.2.2.2.2.2 HW.1 HW.2.1 HW.2.2.1 3 rfl rfl 2 (by decide) (CX.2.2.2.2.1 _ hlk) (fun _ h9 => h9) rfl (by decide +kernel) rfl rfl (Nat.le_of_ble_eq_true rfl) hdg (fun H1 locs1 h1 h2 h3 => kk _ H1 locs1 rfl ⟨h1, h2, h3, HW.2.2.2.st hu⟩)
theorem vr_34 (CX : vd_Cx p s m c cc nL args own D) (HW : vd_WS D ad s K H locs) : ∃ cell : Cell, H[ad 34]? = some cell ∧ cell.vm.isStatics = false ∧ s.vm.findClass R_W = some cell.cls := va_recv CX.2.2.2.2.2 HW.1 (ci := 1) (q0 := 4) rfl rfl
theorem vg_34_numbers (CX : vd_Cx p s m c cc nL args own D) (HW : vd_WS D ad s K H locs) (hlk : Cond.fieldLink own idx "VersionDepot$Rows" "numbers" "[I" ∈ vd_tbl) (hdg : decode cc pc = .ok (.getfield idx, 3)) (kk : W p l e R s m args below meth c H locs cells slots Q (F0 m (pc + 3) ls (.ref (ad 12) :: rest))) : W p l e R s m args below meth c H locs cells slots Q (F0 m pc ls (.ref (ad 34) :: rest)) :=
  va_get (D := D) (ci := 1) (v := .ref (ad 12)) (C := R_W) (T := T_W) (N := 3) CX.1 CX.2.1 CX.2.2.2.2.1 in_W CX.2.2.2.1 CX.2.2.2.2.2 HW.1 4 rfl rfl 0 (by decide) (CX.2.2.2.2.1 _ hlk) (fun _ h9 => h9) rfl hdg kk
theorem vg_34_stored (CX : vd_Cx p s m c cc nL args own D) (HW : vd_WS D ad s K H locs) (hlk : Cond.fieldLink own idx "VersionDepot$Rows" "stored" "[Z" ∈ vd_tbl) (hdg : decode cc pc = .ok (.getfield idx, 3)) (kk : W p l e R s m args below meth c H locs cells slots Q (F0 m (pc + 3) ls (.ref (ad 13) :: rest))) : W p l e R s m args below meth c H locs cells slots Q (F0 m pc ls (.ref (ad 34) :: rest)) :=
  va_get (D := D) (ci := 1) (v := .ref (ad 13)) (C := R_W) (T := T_W) (N := 3) CX.1 CX.2.1 CX.2.2.2.2.1 in_W CX.2.2.2.1 CX.2.2.2.2.2 HW.1 4 rfl rfl 1 (by decide) (CX.2.2.2.2.1 _ hlk) (fun _ h9 => h9) rfl hdg kk
theorem vg_34_last (CX : vd_Cx p s m c cc nL args own D) (HW : vd_WS D ad s K H locs) (hlk : Cond.fieldLink own idx "VersionDepot$Rows" "last" "I" ∈ vd_tbl) (hdg : decode cc pc = .ok (.getfield idx, 3)) (kk : K 46 0 ≤ vd_ub 46 → W p l e R s m args below meth c H locs cells slots Q (F0 m (pc + 3) ls (.int (nI (K 46 0)) :: rest))) : W p l e R s m args below meth c H locs cells slots Q (F0 m pc ls (.ref (ad 34) :: rest)) :=
  va_get (D := D) (ci := 1) (v := .int (nI (K 46 0))) (C := R_W) (T := T_W) (N := 3) CX.1 CX.2.1 CX.2.2.2.2.1 in_W CX.2.2.2.1 CX.2.2.2.2.2 HW.1 4 rfl rfl 2 (by decide) (CX.2.2.2.2.1 _ hlk) (fun _ h9 => h9) rfl hdg (kk (HW.2.2.2 46 0 (by decide)))
theorem vt_34_last (CX : vd_Cx p s m c cc nL args own D) (HW : vd_WS D ad s K H locs) {x : Nat} (hu : x ≤ vd_ub 46) (hlk : Cond.fieldLink own idx "VersionDepot$Rows" "last" "I" ∈ vd_tbl) (hdg : decode cc pc = .ok (.putfield idx, 3)) (kk : ∀ (K' : KT) (H' : Heap) (locs' : List Loc), K' = vd_st K 46 0 x → vd_WS D ad s K' H' locs' → W p l e R s m args below meth c H' locs' cells slots Q (F0 m (pc + 3) ls rest)) : W p l e R s m args below meth c H locs cells slots Q (F0 m pc ls (.int (nI x) :: .ref (ad 34) :: rest)) :=
  va_put (D := D) (ci := 1) (v := .int (nI x)) (ty := .int) (C := R_W) (T := T_W) (N := 3) CX.1 CX.2.1 CX.2.2.2.2.1 in_W ty_W tyok_W nm_W CX.2.2.2.1 CX.2.2.2.2.2 HW.1 HW.2.1 HW.2.2.1 4 rfl rfl 2 (by decide) (CX.2.2.2.2.1 _ hlk) (fun _ h9 => h9) rfl (by decide +kernel) rfl rfl (Nat.le_of_ble_eq_true rfl) hdg (fun H1 locs1 h1 h2 h3 => kk _ H1 locs1 rfl ⟨h1, h2, h3, HW.2.2.2.st hu⟩)
theorem vr_35 (CX : vd_Cx p s m c cc nL args own D) (HW : vd_WS D ad s K H locs) : ∃ cell : Cell, H[ad 35]? = some cell ∧ cell.vm.isStatics = false ∧ s.vm.findClass R_M = some cell.cls := va_recv CX.2.2.2.2.2 HW.1 (ci := 4) (q0 := 5) rfl rfl
theorem vg_35_content (CX : vd_Cx p s m c cc nL args own D) (HW : vd_WS D ad s K H locs) (hlk : Cond.fieldLink own idx "VersionDepotModel" "content" "[I" ∈ vd_tbl) (hdg : decode cc pc = .ok (.getfield idx, 3)) (kk : W p l e R s m args below meth c H locs cells slots Q (F0 m (pc + 3) ls (.ref (ad 14) :: rest))) : W p l e R s m args below meth c H locs cells slots Q (F0 m pc ls (.ref (ad 35) :: rest)) :=
  va_get (D := D) (ci := 4) (v := .ref (ad 14)) (C := R_M) (T := T_M) (N := 12) CX.1 CX.2.1 CX.2.2.2.2.1 in_M CX.2.2.2.1 CX.2.2.2.2.2 HW.1 5 rfl rfl 0 (by decide) (CX.2.2.2.2.1 _ hlk) (fun _ h9 => h9) rfl hdg kk
theorem vg_35_stored (CX : vd_Cx p s m c cc nL args own D) (HW : vd_WS D ad s K H locs) (hlk : Cond.fieldLink own idx "VersionDepotModel" "stored" "[Z" ∈ vd_tbl) (hdg : decode cc pc = .ok (.getfield idx, 3)) (kk : W p l e R s m args below meth c H locs cells slots Q (F0 m (pc + 3) ls (.ref (ad 15) :: rest))) : W p l e R s m args below meth c H locs cells slots Q (F0 m pc ls (.ref (ad 35) :: rest)) :=
  va_get (D := D) (ci := 4) (v := .ref (ad 15)) (C := R_M) (T := T_M) (N := 12) CX.1 CX.2.1 CX.2.2.2.2.1 in_M CX.2.2.2.1 CX.2.2.2.2.2 HW.1 5 rfl rfl 1 (by decide) (CX.2.2.2.2.1 _ hlk) (fun _ h9 => h9) rfl hdg kk
theorem vg_35_first (CX : vd_Cx p s m c cc nL args own D) (HW : vd_WS D ad s K H locs) (hlk : Cond.fieldLink own idx "VersionDepotModel" "first" "[I" ∈ vd_tbl) (hdg : decode cc pc = .ok (.getfield idx, 3)) (kk : W p l e R s m args below meth c H locs cells slots Q (F0 m (pc + 3) ls (.ref (ad 16) :: rest))) : W p l e R s m args below meth c H locs cells slots Q (F0 m pc ls (.ref (ad 35) :: rest)) :=
  va_get (D := D) (ci := 4) (v := .ref (ad 16)) (C := R_M) (T := T_M) (N := 12) CX.1 CX.2.1 CX.2.2.2.2.1 in_M CX.2.2.2.1 CX.2.2.2.2.2 HW.1 5 rfl rfl 2 (by decide) (CX.2.2.2.2.1 _ hlk) (fun _ h9 => h9) rfl hdg kk
theorem vg_35_second (CX : vd_Cx p s m c cc nL args own D) (HW : vd_WS D ad s K H locs) (hlk : Cond.fieldLink own idx "VersionDepotModel" "second" "[I" ∈ vd_tbl) (hdg : decode cc pc = .ok (.getfield idx, 3)) (kk : W p l e R s m args below meth c H locs cells slots Q (F0 m (pc + 3) ls (.ref (ad 17) :: rest))) : W p l e R s m args below meth c H locs cells slots Q (F0 m pc ls (.ref (ad 35) :: rest)) :=
  va_get (D := D) (ci := 4) (v := .ref (ad 17)) (C := R_M) (T := T_M) (N := 12) CX.1 CX.2.1 CX.2.2.2.2.1 in_M CX.2.2.2.1 CX.2.2.2.2.2 HW.1 5 rfl rfl 3 (by decide) (CX.2.2.2.2.1 _ hlk) (fun _ h9 => h9) rfl hdg kk
theorem vg_35_made (CX : vd_Cx p s m c cc nL args own D) (HW : vd_WS D ad s K H locs) (hlk : Cond.fieldLink own idx "VersionDepotModel" "made" "I" ∈ vd_tbl) (hdg : decode cc pc = .ok (.getfield idx, 3)) (kk : K 47 0 ≤ vd_ub 47 → W p l e R s m args below meth c H locs cells slots Q (F0 m (pc + 3) ls (.int (nI (K 47 0)) :: rest))) : W p l e R s m args below meth c H locs cells slots Q (F0 m pc ls (.ref (ad 35) :: rest)) :=
  va_get (D := D) (ci := 4) (v := .int (nI (K 47 0))) (C := R_M) (T := T_M) (N := 12) CX.1 CX.2.1 CX.2.2.2.2.1 in_M CX.2.2.2.1 CX.2.2.2.2.2 HW.1 5 rfl rfl 4 (by decide) (CX.2.2.2.2.1 _ hlk) (fun _ h9 => h9) rfl hdg (kk (HW.2.2.2 47 0 (by decide)))
theorem vt_35_made (CX : vd_Cx p s m c cc nL args own D) (HW : vd_WS D ad s K H locs) {x : Nat} (hu : x ≤ vd_ub 47) (hlk : Cond.fieldLink own idx "VersionDepotModel" "made" "I" ∈ vd_tbl) (hdg : decode cc pc = .ok (.putfield idx, 3)) (kk : ∀ (K' : KT) (H' : Heap) (locs' : List Loc), K' = vd_st K 47 0 x → vd_WS D ad s K' H' locs' → W p l e R s m args below meth c H' locs' cells slots Q (F0 m (pc + 3) ls rest)) : W p l e R s m args below meth c H locs cells slots Q (F0 m pc ls (.int (nI x) :: .ref (ad 35) :: rest)) :=
  va_put (D := D) (ci := 4) (v := .int (nI x)) (ty := .int) (C := R_M) (T := T_M) (N := 12) CX.1 CX.2.1 CX.2.2.2.2.1 in_M ty_M tyok_M nm_M CX.2.2.2.1 CX.2.2.2.2.2 HW.1 HW.2.1 HW.2.2.1 5 rfl rfl 4 (by decide) (CX.2.2.2.2.1 _ hlk) (fun _ h9 => h9) rfl (by decide +kernel) rfl rfl (Nat.le_of_ble_eq_true rfl) hdg (fun H1 locs1 h1 h2 h3 => kk _ H1 locs1 rfl ⟨h1, h2, h3, HW.2.2.2.st hu⟩)
theorem vg_35_branch (CX : vd_Cx p s m c cc nL args own D) (HW : vd_WS D ad s K H locs) (hlk : Cond.fieldLink own idx "VersionDepotModel" "branch" "[I" ∈ vd_tbl) (hdg : decode cc pc = .ok (.getfield idx, 3)) (kk : W p l e R s m args below meth c H locs cells slots Q (F0 m (pc + 3) ls (.ref (ad 18) :: rest))) : W p l e R s m args below meth c H locs cells slots Q (F0 m pc ls (.ref (ad 35) :: rest)) :=
  va_get (D := D) (ci := 4) (v := .ref (ad 18)) (C := R_M) (T := T_M) (N := 12) CX.1 CX.2.1 CX.2.2.2.2.1 in_M CX.2.2.2.1 CX.2.2.2.2.2 HW.1 5 rfl rfl 5 (by decide) (CX.2.2.2.2.1 _ hlk) (fun _ h9 => h9) rfl hdg kk
theorem vg_35_head (CX : vd_Cx p s m c cc nL args own D) (HW : vd_WS D ad s K H locs) (hlk : Cond.fieldLink own idx "VersionDepotModel" "head" "I" ∈ vd_tbl) (hdg : decode cc pc = .ok (.getfield idx, 3)) (kk : K 48 0 ≤ vd_ub 48 → W p l e R s m args below meth c H locs cells slots Q (F0 m (pc + 3) ls (.int (nI (K 48 0)) :: rest))) : W p l e R s m args below meth c H locs cells slots Q (F0 m pc ls (.ref (ad 35) :: rest)) :=
  va_get (D := D) (ci := 4) (v := .int (nI (K 48 0))) (C := R_M) (T := T_M) (N := 12) CX.1 CX.2.1 CX.2.2.2.2.1 in_M CX.2.2.2.1 CX.2.2.2.2.2 HW.1 5 rfl rfl 6 (by decide) (CX.2.2.2.2.1 _ hlk) (fun _ h9 => h9) rfl hdg (kk (HW.2.2.2 48 0 (by decide)))
theorem vt_35_head (CX : vd_Cx p s m c cc nL args own D) (HW : vd_WS D ad s K H locs) {x : Nat} (hu : x ≤ vd_ub 48) (hlk : Cond.fieldLink own idx "VersionDepotModel" "head" "I" ∈ vd_tbl) (hdg : decode cc pc = .ok (.putfield idx, 3)) (kk : ∀ (K' : KT) (H' : Heap) (locs' : List Loc), K' = vd_st K 48 0 x → vd_WS D ad s K' H' locs' → W p l e R s m args below meth c H' locs' cells slots Q (F0 m (pc + 3) ls rest)) : W p l e R s m args below meth c H locs cells slots Q (F0 m pc ls (.int (nI x) :: .ref (ad 35) :: rest)) :=
  va_put (D := D) (ci := 4) (v := .int (nI x)) (ty := .int) (C := R_M) (T := T_M) (N := 12) CX.1 CX.2.1 CX.2.2.2.2.1 in_M ty_M tyok_M nm_M CX.2.2.2.1 CX.2.2.2.2.2 HW.1 HW.2.1 HW.2.2.1 5 rfl rfl 6 (by decide) (CX.2.2.2.2.1 _ hlk) (fun _ h9 => h9) rfl (by decide +kernel) rfl rfl (Nat.le_of_ble_eq_true rfl) hdg (fun H1 locs1 h1 h2 h3 => kk _ H1 locs1 rfl ⟨h1, h2, h3, HW.2.2.2.st hu⟩)
theorem vg_35_merging (CX : vd_Cx p s m c cc nL args own D) (HW : vd_WS D ad s K H locs) (hlk : Cond.fieldLink own idx "VersionDepotModel" "merging" "I" ∈ vd_tbl) (hdg : decode cc pc = .ok (.getfield idx, 3)) (kk : K 49 0 ≤ vd_ub 49 → W p l e R s m args below meth c H locs cells slots Q (F0 m (pc + 3) ls (.int (nI (K 49 0)) :: rest))) : W p l e R s m args below meth c H locs cells slots Q (F0 m pc ls (.ref (ad 35) :: rest)) :=
  va_get (D := D) (ci := 4) (v := .int (nI (K 49 0))) (C := R_M) (T := T_M) (N := 12) CX.1 CX.2.1 CX.2.2.2.2.1 in_M CX.2.2.2.1 CX.2.2.2.2.2 HW.1 5 rfl rfl 7 (by decide) (CX.2.2.2.2.1 _ hlk) (fun _ h9 => h9) rfl hdg (kk (HW.2.2.2 49 0 (by decide)))
theorem vt_35_merging (CX : vd_Cx p s m c cc nL args own D) (HW : vd_WS D ad s K H locs) {x : Nat} (hu : x ≤ vd_ub 49) (hlk : Cond.fieldLink own idx "VersionDepotModel" "merging" "I" ∈ vd_tbl) (hdg : decode cc pc = .ok (.putfield idx, 3)) (kk : ∀ (K' : KT) (H' : Heap) (locs' : List Loc), K' = vd_st K 49 0 x → vd_WS D ad s K' H' locs' → W p l e R s m args below meth c H' locs' cells slots Q (F0 m (pc + 3) ls rest)) : W p l e R s m args below meth c H locs cells slots Q (F0 m pc ls (.int (nI x) :: .ref (ad 35) :: rest)) :=
  va_put (D := D) (ci := 4) (v := .int (nI x)) (ty := .int) (C := R_M) (T := T_M) (N := 12) CX.1 CX.2.1 CX.2.2.2.2.1 in_M ty_M tyok_M nm_M CX.2.2.2.1 CX.2.2.2.2.2 HW.1 HW.2.1 HW.2.2.1 5 rfl rfl 7 (by decide) (CX.2.2.2.2.1 _ hlk) (fun _ h9 => h9) rfl (by decide +kernel) rfl rfl (Nat.le_of_ble_eq_true rfl) hdg (fun H1 locs1 h1 h2 h3 => kk _ H1 locs1 rfl ⟨h1, h2, h3, HW.2.2.2.st hu⟩)
theorem vg_35_clashing (CX : vd_Cx p s m c cc nL args own D) (HW : vd_WS D ad s K H locs) (hlk : Cond.fieldLink own idx "VersionDepotModel" "clashing" "[Z" ∈ vd_tbl) (hdg : decode cc pc = .ok (.getfield idx, 3)) (kk : W p l e R s m args below meth c H locs cells slots Q (F0 m (pc + 3) ls (.ref (ad 19) :: rest))) : W p l e R s m args below meth c H locs cells slots Q (F0 m pc ls (.ref (ad 35) :: rest)) :=
  va_get (D := D) (ci := 4) (v := .ref (ad 19)) (C := R_M) (T := T_M) (N := 12) CX.1 CX.2.1 CX.2.2.2.2.1 in_M CX.2.2.2.1 CX.2.2.2.2.2 HW.1 5 rfl rfl 8 (by decide) (CX.2.2.2.2.1 _ hlk) (fun _ h9 => h9) rfl hdg kk
theorem vg_35_blob (CX : vd_Cx p s m c cc nL args own D) (HW : vd_WS D ad s K H locs) (hlk : Cond.fieldLink own idx "VersionDepotModel" "blob" "[Z" ∈ vd_tbl) (hdg : decode cc pc = .ok (.getfield idx, 3)) (kk : W p l e R s m args below meth c H locs cells slots Q (F0 m (pc + 3) ls (.ref (ad 20) :: rest))) : W p l e R s m args below meth c H locs cells slots Q (F0 m pc ls (.ref (ad 35) :: rest)) :=
  va_get (D := D) (ci := 4) (v := .ref (ad 20)) (C := R_M) (T := T_M) (N := 12) CX.1 CX.2.1 CX.2.2.2.2.1 in_M CX.2.2.2.1 CX.2.2.2.2.2 HW.1 5 rfl rfl 9 (by decide) (CX.2.2.2.2.1 _ hlk) (fun _ h9 => h9) rfl hdg kk
theorem vg_35_marked (CX : vd_Cx p s m c cc nL args own D) (HW : vd_WS D ad s K H locs) (hlk : Cond.fieldLink own idx "VersionDepotModel" "marked" "[Z" ∈ vd_tbl) (hdg : decode cc pc = .ok (.getfield idx, 3)) (kk : W p l e R s m args below meth c H locs cells slots Q (F0 m (pc + 3) ls (.ref (ad 21) :: rest))) : W p l e R s m args below meth c H locs cells slots Q (F0 m pc ls (.ref (ad 35) :: rest)) :=
  va_get (D := D) (ci := 4) (v := .ref (ad 21)) (C := R_M) (T := T_M) (N := 12) CX.1 CX.2.1 CX.2.2.2.2.1 in_M CX.2.2.2.1 CX.2.2.2.2.2 HW.1 5 rfl rfl 10 (by decide) (CX.2.2.2.2.1 _ hlk) (fun _ h9 => h9) rfl hdg kk
theorem vg_35_other (CX : vd_Cx p s m c cc nL args own D) (HW : vd_WS D ad s K H locs) (hlk : Cond.fieldLink own idx "VersionDepotModel" "other" "[Z" ∈ vd_tbl) (hdg : decode cc pc = .ok (.getfield idx, 3)) (kk : W p l e R s m args below meth c H locs cells slots Q (F0 m (pc + 3) ls (.ref (ad 22) :: rest))) : W p l e R s m args below meth c H locs cells slots Q (F0 m pc ls (.ref (ad 35) :: rest)) :=
  va_get (D := D) (ci := 4) (v := .ref (ad 22)) (C := R_M) (T := T_M) (N := 12) CX.1 CX.2.1 CX.2.2.2.2.1 in_M CX.2.2.2.1 CX.2.2.2.2.2 HW.1 5 rfl rfl 11 (by decide) (CX.2.2.2.2.1 _ hlk) (fun _ h9 => h9) rfl hdg kk
end VDF
end
section
/-! WHAT THE METHODS MEAN, in words of K -/
theorem vd_ltI {x : Int32} {b : Nat} (hb : b < 2 ^ 31) : x < nI b ↔ x.toInt < (b : Int) := by rw [Int32.lt_iff_toInt_lt, nI_toInt hb]
theorem vd_leI {x : Int32} {b : Nat} (hb : b < 2 ^ 31) : x ≤ nI b ↔ x.toInt ≤ (b : Int) := by rw [Int32.le_iff_toInt_le, nI_toInt hb]
theorem vd_geI {x : Int32} {b : Nat} (hb : b < 2 ^ 31) : nI b ≤ x ↔ (b : Int) ≤ x.toInt := by rw [Int32.le_iff_toInt_le, nI_toInt hb]
theorem vd_gtI {x : Int32} {b : Nat} (hb : b < 2 ^ 31) : nI b < x ↔ (b : Int) < x.toInt := by rw [Int32.lt_iff_toInt_lt, nI_toInt hb]
theorem vd_ltZ {x : Int32} : x < 0 ↔ x.toInt < 0 := by rw [← nI_0, vd_ltI (by decide)]; rfl
theorem vd_ofI {x : Int32} {lo hi : Nat} (h1 : (lo : Int) ≤ x.toInt) (h2 : x.toInt ≤ (hi : Int)) : ∃ c : Nat, lo ≤ c ∧ c ≤ hi ∧ x = nI c := by
  obtain ⟨j, hj, rfl⟩ := nI_of (x := x) (fun h => by have := vd_ltZ.mp h; omega)
  rw [nI_toInt hj] at h1 h2
  exact ⟨j, by omega, by omega, rfl⟩
def vd_in (lo hi : Nat) (x : Int32) : Bool := decide ((lo : Int) ≤ x.toInt ∧ x.toInt ≤ (hi : Int))
theorem vd_in_t {lo hi : Nat} {x : Int32} (h : vd_in lo hi x = true) : ∃ c : Nat, lo ≤ c ∧ c ≤ hi ∧ x = nI c := vd_ofI (of_decide_eq_true h).1 (of_decide_eq_true h).2
theorem vd_in_y {lo hi : Nat} {x : Int32} (h1 : (lo : Int) ≤ x.toInt) (h2 : x.toInt ≤ (hi : Int)) : vd_in lo hi x = true := decide_eq_true ⟨h1, h2⟩
theorem vd_in_l {lo hi : Nat} {x : Int32} (h : x.toInt < (lo : Int)) : vd_in lo hi x = false := decide_eq_false (fun q => by omega)
theorem vd_in_h {lo hi : Nat} {x : Int32} (h : (hi : Int) < x.toInt) : vd_in lo hi x = false := decide_eq_false (fun q => by omega)
theorem vd_in_n {lo hi c : Nat} (h1 : lo ≤ c) (h2 : c ≤ hi) (hh : hi < 2 ^ 31) : vd_in lo hi (nI c) = true := by
  have e : (nI c).toInt = (c : Int) := nI_toInt (by omega)
  exact vd_in_y (by omega) (by omega)
/-- how many below n -/
def vd_cn (P : Nat → Bool) : Nat → Nat
  | 0 => 0
  | n + 1 => vd_cn P n + (P n).toNat
theorem vd_cn_le (P : Nat → Bool) : ∀ n, vd_cn P n ≤ n
  | 0 => Nat.le_refl 0
  | n + 1 => by
    have h := vd_cn_le P n
    have h2 : (P n).toNat ≤ 1 := by cases P n <;> decide
    show vd_cn P n + (P n).toNat ≤ n + 1
    omega
theorem vd_cn_t {P : Nat → Bool} {n a : Nat} (ha : a = vd_cn P n) (h : P n = true) : a + 1 = vd_cn P (n + 1) := by
  show a + 1 = vd_cn P n + (P n).toNat
  rw [h, ha]
  rfl
theorem vd_cn_f {P : Nat → Bool} {n a : Nat} (ha : a = vd_cn P n) (h : P n = false) : a = vd_cn P (n + 1) := by
  show a = vd_cn P n + (P n).toNat
  rw [h, ha]
  rfl
/-- the bits below n -/
def vd_mk (P : Nat → Bool) : Nat → Nat
  | 0 => 0
  | n + 1 => vd_mk P n ||| (if P n = true then 2 ^ n else 0)
theorem vd_mk_t {P : Nat → Bool} {n a : Nat} (ha : a = vd_mk P n) (h : P n = true) : a ||| 2 ^ n = vd_mk P (n + 1) := by
  show a ||| 2 ^ n = vd_mk P n ||| (if P n = true then 2 ^ n else 0)
  rw [if_pos h, ha]
theorem vd_mk_f {P : Nat → Bool} {n a : Nat} (ha : a = vd_mk P n) (h : P n = false) : a = vd_mk P (n + 1) := by
  show a = vd_mk P n ||| (if P n = true then 2 ^ n else 0)
  rw [if_neg (by rw [h]; decide), Nat.or_zero, ha]
theorem vd_mk_lt (P : Nat → Bool) : ∀ n, vd_mk P n < 2 ^ n
  | 0 => Nat.zero_lt_one
  | n + 1 => by
    have h := vd_mk_lt P n
    have h1 : vd_mk P n < 2 ^ (n + 1) := Nat.lt_of_lt_of_le h (Nat.pow_le_pow_right (by decide) (Nat.le_succ n))
    have h2 : (if P n = true then 2 ^ n else 0) < 2 ^ (n + 1) := by
      split
      · exact Nat.pow_lt_pow_right (by decide) (Nat.lt_succ_self n)
      · exact Nat.pow_pos (by decide)
    exact Nat.or_lt_two_pow h1 h2
/-- two rows are alike below n -/
def vd_eqn (a b : Nat → Nat) : Nat → Bool
  | 0 => true
  | n + 1 => vd_eqn a b n && (a n == b n)
theorem vd_eqn_i {a b : Nat → Nat} : ∀ {n : Nat}, vd_eqn a b n = true ↔ ∀ f, f < n → a f = b f
  | 0 => ⟨fun _ f hf => absurd hf (by omega), fun _ => rfl⟩
  | n + 1 => by
    show (vd_eqn a b n && (a n == b n)) = true ↔ _
    rw [Bool.and_eq_true, vd_eqn_i (n := n), beq_iff_eq]
    constructor
    · rintro ⟨h1, h2⟩ f hf
      by_cases e : f = n
      · subst e
        exact h2
      · exact h1 f (by omega)
    · intro h
      exact ⟨fun f hf => h f (by omega), h n (by omega)⟩
theorem vd_eqn_t {a b : Nat → Nat} {n : Nat} (h : ∀ f, f < n → a f = b f) : vd_eqn a b n = true := vd_eqn_i.mpr h
theorem vd_eqn_f {a b : Nat → Nat} {n : Nat} (h : ¬ ∀ f, f < n → a f = b f) : vd_eqn a b n = false := by
  cases hb : vd_eqn a b n with
  | false => rfl
  | true => exact absurd (vd_eqn_i.mp hb) h
theorem vd_eqn_c {a b a' b' : Nat → Nat} {n n' : Nat} (h : (∀ f, f < n → a f = b f) ↔ ∀ f, f < n' → a' f = b' f) : vd_eqn a b n = vd_eqn a' b' n' := by
  rw [Bool.eq_iff_iff, vd_eqn_i, vd_eqn_i]
  exact h
def vd_here (K : KT) : Nat := K 3 (K 40 0)
def vd_cnt (K : KT) (c f : Nat) : Nat := K 10 (K 12 (K 4 c * 4 + f / 4) * 4 + f % 4)
theorem vd_cnt_of {K K' : KT} (h1 : K' 4 = K 4) (h2 : K' 10 = K 10) (h3 : K' 12 = K 12) (c f : Nat) : vd_cnt K' c f = vd_cnt K c f := by
  unfold vd_cnt
  rw [h1, h2, h3]
def vd_un (K : KT) : Nat := vd_cn (fun f => K 0 f != K 1 f) 16
/-- array j is as HERE -/
def vd_ash (K : KT) (j : Nat) : Bool := vd_eqn (fun f => K j f) (fun f => vd_cnt K (vd_here K) f) 16
def vd_tidy (K : KT) : Bool := (vd_un K == 0) && vd_ash K 1
/-- HEAD at c, index and work as c -/
def vd_mv (K : KT) (c : Nat) : KT := vd_fl (vd_fl (vd_st K 3 (K 40 0) c) 1 0 16 (fun f => vd_cnt K c f)) 0 0 16 (fun f => vd_cnt K c f)
def vd_clash (K : KT) (o b f : Nat) : Bool := (vd_cnt K (vd_here K) f != vd_cnt K o f) && ((vd_cnt K (vd_here K) f != vd_cnt K b f) && (vd_cnt K o f != vd_cnt K b f))
def vd_mixv (K : KT) (o b f : Nat) : Nat := if vd_cnt K (vd_here K) f = vd_cnt K b f then vd_cnt K o f else vd_cnt K (vd_here K) f
def vd_mix (K : KT) (o b : Nat) : KT := vd_fl K 2 0 16 (fun f => vd_mixv K o b f)
def vd_hol (K : KT) (x : Int32) : Bool := vd_in 1 30 x && (K 44 0).testBit x.toNatClampNeg
theorem vd_hol_t {K : KT} {x : Int32} (h : vd_hol K x = true) : ∃ c : Nat, 1 ≤ c ∧ c ≤ 30 ∧ x = nI c ∧ (K 44 0).testBit c = true := by
  unfold vd_hol at h
  rw [Bool.and_eq_true] at h
  obtain ⟨c, h1, h2, rfl⟩ := vd_in_t h.1
  rw [nI_clamp (by omega)] at h
  exact ⟨c, h1, h2, rfl, h.2⟩
/-- the greatest number below n + 1 and above 0 that has P; 0 if there is none -/
def vd_topP (P : Nat → Bool) : Nat → Nat
  | 0 => 0
  | n + 1 => if P (n + 1) = true then n + 1 else vd_topP P n
abbrev vd_top (x : Nat) (n : Nat) : Nat := vd_topP (fun k => x.testBit k) n
theorem vd_topP_s (P : Nat → Bool) (n : Nat) : vd_topP P (n + 1) = if P (n + 1) = true then n + 1 else vd_topP P n := rfl
theorem vd_topP_le (P : Nat → Bool) : ∀ n, vd_topP P n ≤ n
  | 0 => Nat.le_refl 0
  | n + 1 => by
    rw [vd_topP_s]
    split
    · exact Nat.le_refl _
    · exact Nat.le_succ_of_le (vd_topP_le P n)
theorem vd_bit0 {x y : Nat} : x &&& 2 ^ y = 0 ↔ x.testBit y = false := by
  constructor
  · intro h
    have h1 : (x &&& 2 ^ y).testBit y = (0 : Nat).testBit y := by rw [h]
    rw [Nat.testBit_and, Nat.testBit_two_pow_self, Bool.and_true, Nat.zero_testBit] at h1
    exact h1
  · intro h
    apply Nat.eq_of_testBit_eq
    intro i
    rw [Nat.testBit_and, Nat.zero_testBit, Nat.testBit_two_pow]
    by_cases hi : y = i
    · subst hi
      rw [h]
      rfl
    · rw [decide_eq_false hi, Bool.and_false]
theorem vd_bit1 {x y : Nat} : x &&& 2 ^ y ≠ 0 ↔ x.testBit y = true := by
  rw [ne_eq, vd_bit0]
  cases x.testBit y <;> simp
theorem vd_andle {x y : Nat} : x &&& 2 ^ y ≤ x := Nat.and_le_left
theorem vd_pow31 {y : Nat} (h : y < 31) : 2 ^ y < 2147483648 := Nat.pow_lt_pow_right (n := 31) (by decide) h
theorem vd_or31 {x y : Nat} (hx : x ≤ 2147483647) (hy : y ≤ 2147483647) : x ||| y ≤ 2147483647 :=
  Nat.le_of_lt_succ (Nat.or_lt_two_pow (n := 31) (Nat.lt_succ_of_le hx) (Nat.lt_succ_of_le hy))
theorem vd_and31 {x y : Nat} (hx : x ≤ 2147483647) : x &&& y ≤ 2147483647 := Nat.le_trans Nat.and_le_left hx
def vd_there (K : KT) (x : Int32) : Bool := vd_in 0 5 x && (K 3 x.toNatClampNeg != 0)
def vd_rsz (K : KT) (ss la : Nat) : Nat := vd_cn (fun r => K ss (r + 1) != 0) (K la 0)
def vd_alk (K : KT) (nn src r f : Nat) : Bool := vd_eqn (fun q => K nn (r * 4 + q)) (fun q => K src (f + q)) 4
/-- the first place from r on, of n, that has P; r + n if there is none -/
def vd_fs (P : Nat → Bool) : Nat → Nat → Nat
  | r, 0 => r
  | r, n + 1 => if P r = true then r else vd_fs P (r + 1) n
theorem vd_fs_s (P : Nat → Bool) (r n : Nat) : vd_fs P r (n + 1) = if P r = true then r else vd_fs P (r + 1) n := rfl
theorem vd_fs_le (P : Nat → Bool) : ∀ n r, vd_fs P r n ≤ r + n
  | 0, r => Nat.le_refl r
  | n + 1, r => by
    rw [vd_fs_s]
    split
    · omega
    · have h := vd_fs_le P n (r + 1)
      omega
theorem vd_fs_ge (P : Nat → Bool) : ∀ n r, r ≤ vd_fs P r n
  | 0, r => Nat.le_refl r
  | n + 1, r => by
    rw [vd_fs_s]
    split
    · omega
    · have h := vd_fs_ge P n (r + 1)
      omega
def vd_row (K : KT) (nn la src f : Nat) : Nat := vd_fs (fun r => vd_alk K nn src r f) 1 (K la 0)
theorem vd_row_le (K : KT) (nn la src f : Nat) : vd_row K nn la src f ≤ K la 0 + 1 := by
  have h := vd_fs_le (fun r => vd_alk K nn src r f) (K la 0) 1
  unfold vd_row
  omega
def vd_keep (K : KT) (nn ss la src f : Nat) : KT := vd_st (if K la 0 < vd_row K nn la src f then vd_st (vd_fl K nn (vd_row K nn la src f * 4) 4 (fun b => K src (f + b))) la 0 (vd_row K nn la src f) else K) ss (vd_row K nn la src f) 1
/-- the blob of x is stored -/
def vd_bk (K : KT) (x : Nat) : KT := if x = 0 then K else vd_st K 9 (x / 64) (K 9 (x / 64) ||| 2 ^ (x % 64))
theorem vd_bk_o (K : KT) (x : Nat) {a : Nat} (h : a ≠ 9) : vd_bk K x a = K a := by
  unfold vd_bk
  split
  · rfl
  · exact vd_st_o h
/-- the blobs of n places of array src from f on -/
def vd_bks (K : KT) (src f : Nat) : Nat → KT
  | 0 => K
  | n + 1 => vd_bk (vd_bks K src f n) (K src (f + n))
theorem vd_bks_o (K : KT) (src f : Nat) {a : Nat} (h : a ≠ 9) : ∀ n, vd_bks K src f n a = K a
  | 0 => rfl
  | n + 1 => by
    show vd_bk (vd_bks K src f n) _ a = K a
    rw [vd_bk_o _ _ h, vd_bks_o K src f h n]
def vd_por (K : KT) (src f : Nat) : Nat → Nat
  | 0 => 0
  | n + 1 => vd_por K src f n ||| K src (f + n)
/-- keepFolder: the state behind it, the number that it answers -/
def vd_kfK (K : KT) (src f : Nat) : KT := if vd_por K src f 4 = 0 then vd_bks K src f 4 else vd_keep (vd_bks K src f 4) 10 11 45 src f
def vd_kfr (K : KT) (src f : Nat) : Nat := if vd_por K src f 4 = 0 then 0 else vd_row (vd_bks K src f 4) 10 45 src f
def vd_kf (K : KT) (src : Nat) : Nat → KT
  | 0 => K
  | n + 1 => vd_st (vd_kfK (vd_kf K src n) src (n * 4)) 8 n (vd_kfr (vd_kf K src n) src (n * 4))
def vd_krK (K : KT) (src : Nat) : KT := vd_keep (vd_kf K src 4) 12 13 46 8 0
def vd_krr (K : KT) (src : Nat) : Nat := vd_row (vd_kf K src 4) 12 46 8 0
/-- make: the state behind it -/
def vd_mkK (K : KT) (src a b : Nat) : KT :=
  let n := K 43 0 + 1
  let K1 := vd_st (vd_krK (vd_st K 43 0 n) src) 4 n (vd_krr (vd_st K 43 0 n) src)
  let K2 := vd_st (vd_st K1 5 n a) 6 n b
  vd_st (vd_st K2 7 n (2 ^ n ||| K2 7 a ||| K2 7 b)) 44 0 (K2 44 0 ||| 2 ^ n)
/-- Store.keepAgain -/
def vd_ka1 (K : KT) (r : Nat) : Nat → KT
  | 0 => K
  | n + 1 => vd_bk (vd_ka1 K r n) (K 10 (r * 4 + n))
def vd_ka (K : KT) (r : Nat) : Nat → KT
  | 0 => vd_st K 13 r 1
  | n + 1 => vd_ka1 (vd_st (vd_ka K r n) 11 (K 12 (r * 4 + n)) 1) (K 12 (r * 4 + n)) 4
def vd_ko (K : KT) : Nat → KT
  | 0 => K
  | n + 1 => if (K 44 0).testBit (n + 1) = true then vd_ka (vd_ko K n) (K 4 (n + 1)) 4 else vd_ko K n
theorem vd_ko_s (K : KT) (n : Nat) : vd_ko K (n + 1) = if (K 44 0).testBit (n + 1) = true then vd_ka (vd_ko K n) (K 4 (n + 1)) 4 else vd_ko K n := rfl
theorem vd_kf_s (K : KT) (src n : Nat) : vd_kf K src (n + 1) = vd_st (vd_kfK (vd_kf K src n) src (n * 4)) 8 n (vd_kfr (vd_kf K src n) src (n * 4)) := rfl
theorem vd_ka_s (K : KT) (r n : Nat) : vd_ka K r (n + 1) = vd_ka1 (vd_st (vd_ka K r n) 11 (K 12 (r * 4 + n)) 1) (K 12 (r * 4 + n)) 4 := rfl
def vd_koK (K : KT) (needed : Nat) : KT := vd_ko (vd_st (vd_fl (vd_fl (vd_fl K 9 0 157 (fun _ => 0)) 11 0 121 (fun _ => 0)) 13 0 31 (fun _ => 0)) 44 0 needed) (K 43 0)
theorem vd_or14 {x y : Nat} (hx : x ≤ 16383) (hy : y ≤ 9999) : x ||| y ≤ 16383 :=
  Nat.le_of_lt_succ (Nat.or_lt_two_pow (n := 14) (Nat.lt_succ_of_le hx) (by omega))
theorem vd_keep_la {K : KT} {nn ss la src f : Nat} (h1 : la ≠ ss) : vd_keep K nn ss la src f la 0 ≤ K la 0 + 1 := by
  unfold vd_keep
  rw [vd_st_o h1]
  split
  · rw [vd_st_s]
    show (if 0 = 0 then _ else _) ≤ _
    rw [if_pos rfl]
    exact vd_row_le K nn la src f
  · exact Nat.le_succ _
theorem vd_kfK_45 {K : KT} {src f : Nat} : vd_kfK K src f 45 0 ≤ K 45 0 + 1 := by
  unfold vd_kfK
  split
  · rw [vd_bks_o _ _ _ (by decide)]
    exact Nat.le_succ _
  · have h := vd_keep_la (K := vd_bks K src f 4) (nn := 10) (ss := 11) (la := 45) (src := src) (f := f) (by decide)
    rw [vd_bks_o _ _ _ (a := 45) (by decide)] at h
    exact h
/-! the reference -/
def vd_hereM (K : KT) : Nat := K 18 (K 48 0)
def vd_stoM (K : KT) (x : Int32) : Bool := vd_in 1 30 x && (K 15 x.toNatClampNeg != 0)
theorem vd_stoM_t {K : KT} {x : Int32} (h : vd_stoM K x = true) : ∃ c : Nat, 1 ≤ c ∧ c ≤ 30 ∧ x = nI c ∧ K 15 c ≠ 0 := by
  unfold vd_stoM at h
  rw [Bool.and_eq_true] at h
  obtain ⟨c, h1, h2, rfl⟩ := vd_in_t h.1
  rw [nI_clamp (by omega)] at h
  exact ⟨c, h1, h2, rfl, by simpa using h.2⟩
def vd_same (K : KT) (a b : Nat) : Bool := vd_eqn (fun f => K 14 (16 * a + f)) (fun f => K 14 (16 * b + f)) 16
def vd_cp (K : KT) (a b : Nat) : KT := vd_fl K 14 (16 * b) 16 (fun f => K 14 (16 * a + f))
def vd_shw (K : KT) (c : Nat) : KT := vd_cp (vd_cp K c 32) c 31
def vd_tidyM (K : KT) : Bool := vd_same K 31 32 && vd_same K 32 (vd_hereM K)
def vd_bl (K : KT) (v : Nat) : KT := if v = 0 then K else vd_st K 20 v 1
theorem vd_bl_o (K : KT) (x : Nat) {a : Nat} (h : a ≠ 20) : vd_bl K x a = K a := by
  unfold vd_bl
  split
  · rfl
  · exact vd_st_o h
def vd_bls (K : KT) (o : Nat) : Nat → KT
  | 0 => K
  | i + 1 => vd_bl (vd_bls K o i) (K 14 (o + i))
theorem vd_bls_o (K : KT) (o : Nat) {a : Nat} (h : a ≠ 20) : ∀ n, vd_bls K o n a = K a
  | 0 => rfl
  | n + 1 => by
    show vd_bl (vd_bls K o n) _ a = K a
    rw [vd_bl_o _ _ h, vd_bls_o K o h n]
def vd_mkM (K : KT) (row one two : Nat) : KT :=
  let n := K 47 0 + 1
  let K1 := vd_cp (vd_st K 47 0 n) row n
  let K2 := vd_bls (vd_st (vd_st (vd_st K1 15 n 1) 16 n one) 17 n two) (16 * n) 16
  vd_st K2 18 (K2 48 0) n
def vd_clM (K : KT) : Nat := vd_cn (fun f => K 19 f != 0) 16
def vd_mk0 (K : KT) (c n : Nat) : KT := vd_fl K 21 0 n (fun k => if k = c ∧ c ≠ 0 then 1 else 0)
def vd_mk1 (K : KT) (j : Nat) : KT := if K 21 j ≠ 0 then vd_st (vd_st K 21 (K 16 j) 1) 21 (K 17 j) 1 else K
def vd_mkd : Nat → KT → KT
  | 0, K => K
  | j + 1, K => vd_mkd j (vd_mk1 K (j + 1))
theorem vd_mkd_s (j : Nat) (K : KT) : vd_mkd (j + 1) K = vd_mkd j (vd_mk1 K (j + 1)) := rfl
def vd_mar (K : KT) (c : Nat) : KT := vd_st (vd_mkd 30 (vd_mk0 K c 31)) 21 0 0
def vd_shK (K : KT) (a b : Nat) : KT := vd_mar (vd_fl (vd_mar K a) 22 0 31 (fun k => vd_mar K a 21 k)) b
def vd_shr (K : KT) (a b : Nat) : Nat := vd_topP (fun k => vd_shK K a b 21 k != 0 && vd_shK K a b 22 k != 0) 30
def vd_xcl (K : KT) (x y z f : Nat) : Bool := (K 14 (16 * x + f) != K 14 (16 * y + f)) && ((K 14 (16 * x + f) != K 14 (16 * z + f)) && (K 14 (16 * y + f) != K 14 (16 * z + f)))
def vd_xmv (K : KT) (x y z f : Nat) : Nat := if K 14 (16 * x + f) = K 14 (16 * z + f) then K 14 (16 * y + f) else K 14 (16 * x + f)
def vd_mxl (K : KT) (x y z w : Nat) : Nat → KT
  | 0 => K
  | i + 1 => if w ≠ 0 then vd_st (vd_st (vd_mxl K x y z w i) 14 (528 + i) (vd_xmv K x y z i)) 19 i (vd_xcl K x y z i).toNat else vd_st (vd_mxl K x y z w i) 14 (528 + i) (vd_xmv K x y z i)
theorem vd_mxl_s (K : KT) (x y z w i : Nat) : vd_mxl K x y z w (i + 1) = if w ≠ 0 then vd_st (vd_st (vd_mxl K x y z w i) 14 (528 + i) (vd_xmv K x y z i)) 19 i (vd_xcl K x y z i).toNat else vd_st (vd_mxl K x y z w i) 14 (528 + i) (vd_xmv K x y z i) := rfl
theorem vd_mxl_14 (K : KT) (x y z w : Nat) {b : Nat} (h : b < 528) : ∀ i, vd_mxl K x y z w i 14 b = K 14 b
  | 0 => rfl
  | i + 1 => by
    have ih := vd_mxl_14 K x y z w h i
    rw [vd_mxl_s]
    split
    · rw [vd_st_o (by decide), vd_st_s]
      show (if b = 528 + i then _ else _) = _
      rw [if_neg (by omega)]
      exact ih
    · rw [vd_st_s]
      show (if b = 528 + i then _ else _) = _
      rw [if_neg (by omega)]
      exact ih
def vd_frR (K : KT) (a : Nat) : Bool := decide (K 15 a ≠ 0 ∧ ∀ b, b < a → 1 ≤ b → ¬ (K 15 b ≠ 0 ∧ vd_same K a b = true))
def vd_alM (K : KT) (i j : Nat) : Bool := vd_eqn (fun q => K 14 (i + q)) (fun q => K 14 (j + q)) 4
def vd_orM (K : KT) (i : Nat) : Nat := K 14 i ||| K 14 (i + 1) ||| K 14 (i + 2) ||| K 14 (i + 3)
def vd_frF (K : KT) (t : Nat) : Bool := decide (K 15 ((16 + 4 * t) / 16) ≠ 0 ∧ vd_orM K (16 + 4 * t) ≠ 0 ∧ ∀ u, u < t → ¬ (K 15 ((16 + 4 * u) / 16) ≠ 0 ∧ vd_alM K (16 + 4 * t) (16 + 4 * u) = true))
def vd_c0 (K : KT) : Nat := vd_cn (fun i => K 20 (i + 1) != 0) 9999
def vd_c1 (K : KT) : Nat := vd_cn (fun t => vd_frF K t) 120
def vd_c2 (K : KT) : Nat := vd_cn (fun i => vd_frR K (i + 1)) 30
def vd_c3 (K : KT) : Nat := vd_cn (fun i => K 15 (i + 1) != 0) 30
def vd_chg (K : KT) : Nat := vd_cn (fun f => K 14 (496 + f) != K 14 (512 + f)) 16
theorem vd_kfK_46 {K : KT} {src f : Nat} : vd_kfK K src f 46 = K 46 := by
  unfold vd_kfK
  split
  · rw [vd_bks_o _ _ _ (by decide)]
  · unfold vd_keep
    rw [vd_st_o (by decide)]
    split
    · rw [vd_st_o (by decide), vd_fl_o (by decide), vd_bks_o _ _ _ (by decide)]
    · rw [vd_bks_o _ _ _ (by decide)]
theorem vd_ka1_o (K : KT) (r : Nat) {a : Nat} (h : a ≠ 9) : ∀ n, vd_ka1 K r n a = K a
  | 0 => rfl
  | n + 1 => by
    show vd_bk (vd_ka1 K r n) _ a = K a
    rw [vd_bk_o _ _ h, vd_ka1_o K r h n]
def vd_f2 (K : KT) (g : Nat → Nat) (i : Nat) : KT := vd_fl (vd_fl K 1 0 i g) 0 0 i g
theorem vd_f2_0 {K : KT} {g : Nat → Nat} : vd_f2 K g 0 = K := by
  unfold vd_f2
  rw [vd_fl_0, vd_fl_0]
theorem vd_f2_s {K Kl Ka Kb : KT} {g : Nat → Nat} {i x y : Nat} (hk : Kl = vd_f2 K g i) (e1 : Ka = vd_st Kl 1 i x) (e2 : Kb = vd_st Ka 0 i y) (hx : x = g i) (hy : y = g i) : Kb = vd_f2 K g (i + 1) := by
  subst e2 e1 hk hx hy
  unfold vd_f2
  have s1 := vd_fl_s (K := K) (j := 1) (o := 0) (n := i) (g := g)
  have s0 := vd_fl_s (K := vd_fl K 1 0 (i + 1) g) (j := 0) (o := 0) (n := i) (g := g)
  rw [← s0, ← s1]
  rw [Nat.zero_add]
  funext a
  by_cases h0 : a = 0
  · subst h0
    rw [vd_st_s, vd_st_s, vd_st_o (by decide), vd_fl_i, vd_fl_i, vd_st_o (by decide)]
  · rw [vd_st_o h0, vd_st_o h0, vd_fl_o h0]
    by_cases h1 : a = 1
    · subst h1
      rw [vd_st_s, vd_st_s, vd_fl_o (by decide)]
    · rw [vd_st_o h1, vd_st_o h1, vd_fl_o h0]
theorem vd_keep_o {K : KT} {nn ss la src f a : Nat} (h1 : a ≠ nn) (h2 : a ≠ ss) (h3 : a ≠ la) : vd_keep K nn ss la src f a = K a := by
  unfold vd_keep
  rw [vd_st_o h2]
  split
  · rw [vd_st_o h3, vd_fl_o h1]
  · rfl
theorem vd_kfK_o {K : KT} {src f a : Nat} (h9 : a ≠ 9) (h10 : a ≠ 10) (h11 : a ≠ 11) (h45 : a ≠ 45) : vd_kfK K src f a = K a := by
  unfold vd_kfK
  split
  · rw [vd_bks_o _ _ _ h9]
  · rw [vd_keep_o h10 h11 h45, vd_bks_o _ _ _ h9]
theorem vd_kf_o {K : KT} {src a : Nat} (h8 : a ≠ 8) (h9 : a ≠ 9) (h10 : a ≠ 10) (h11 : a ≠ 11) (h45 : a ≠ 45) : ∀ n, vd_kf K src n a = K a
  | 0 => rfl
  | n + 1 => by
    rw [vd_kf_s]
    rw [vd_st_o h8, vd_kfK_o h9 h10 h11 h45, vd_kf_o h8 h9 h10 h11 h45 n]
theorem vd_krK_o {K : KT} {src a : Nat} (h8 : a ≠ 8) (h9 : a ≠ 9) (h10 : a ≠ 10) (h11 : a ≠ 11) (h12 : a ≠ 12) (h13 : a ≠ 13) (h45 : a ≠ 45) (h46 : a ≠ 46) : vd_krK K src a = K a := by
  unfold vd_krK
  rw [vd_keep_o h12 h13 h46, vd_kf_o h8 h9 h10 h11 h45]
theorem vd_krK_43 {K : KT} {src : Nat} : vd_krK K src 43 = K 43 := vd_krK_o (by decide) (by decide) (by decide) (by decide) (by decide) (by decide) (by decide) (by decide)
theorem vd_ka_o (K : KT) (r : Nat) {a : Nat} (h9 : a ≠ 9) (h11 : a ≠ 11) (h13 : a ≠ 13) : ∀ {n}, vd_ka K r n a = K a
  | 0 => vd_st_o h13
  | n + 1 => by
    rw [vd_ka_s]
    rw [vd_ka1_o _ _ h9, vd_st_o h11, vd_ka_o K r h9 h11 h13]
theorem vd_hol_b {K : KT} {c : Nat} (h : vd_hol K (nI c) = true) (h1 : 1 ≤ c) (h2 : c ≤ 30) : (K 44 0).testBit c = true := by
  unfold vd_hol at h
  rw [Bool.and_eq_true, nI_clamp (by omega)] at h
  exact h.2
theorem vd_hol_nb {K : KT} {c : Nat} (h : vd_hol K (nI c) = false) (h1 : 1 ≤ c) (h2 : c ≤ 30) : (K 44 0).testBit c = false := by
  unfold vd_hol at h
  rw [vd_in_n h1 h2 (by decide), Bool.true_and, nI_clamp (by omega)] at h
  exact h
/-- how many bits of x below n are set -/
def vd_pc (n x : Nat) : Nat := vd_cn (fun i => x.testBit i) n
def vd_bsz (K : KT) : Nat → Nat
  | 0 => 0
  | n + 1 => vd_bsz K n + vd_pc 64 (K 9 n)
theorem vd_bsz_le (K : KT) : ∀ n, vd_bsz K n ≤ 64 * n
  | 0 => Nat.le_refl 0
  | n + 1 => by
    have h1 := vd_bsz_le K n
    have h2 : vd_pc 64 (K 9 n) ≤ 64 := vd_cn_le _ _
    show vd_bsz K n + vd_pc 64 (K 9 n) ≤ 64 * (n + 1)
    omega
def vd_size (K : KT) : Nat := vd_bsz K 157 + vd_rsz K 11 45 + vd_rsz K 13 46 + vd_pc 32 (K 44 0)
def vd_clr (c f : Nat) : Nat := c &&& (65535 ^^^ 2 ^ f)
theorem vd_clr_le {c f : Nat} (h : c ≤ 65535) : vd_clr c f ≤ 65535 := Nat.le_trans Nat.and_le_left h
theorem vd_clrI {c f : Nat} (hc : c ≤ 65535) (hf : f < 16) : nI c &&& (nI (2 ^ f) ^^^ (-1 : Int32)) = nI (vd_clr c f) := by
  apply Int32.toBitVec_inj.1
  show BitVec.ofNat 32 c &&& (BitVec.ofNat 32 (2 ^ f) ^^^ BitVec.allOnes 32) = BitVec.ofNat 32 (vd_clr c f)
  apply BitVec.eq_of_getLsbD_eq
  intro i hi
  have hb : i ≥ 16 → c.testBit i = false := fun h => Nat.testBit_lt_two_pow (Nat.lt_of_lt_of_le (show c < 2 ^ 16 by omega) (Nat.pow_le_pow_right (by decide) h))
  have h6 : (65535 : Nat).testBit i = decide (i < 16) := Nat.testBit_two_pow_sub_one 16 i
  simp only [BitVec.getLsbD_and, BitVec.getLsbD_xor, BitVec.getLsbD_ofNat, BitVec.getLsbD_allOnes, vd_clr, Nat.testBit_and, Nat.testBit_xor, h6, hi, decide_true, Bool.true_and]
  by_cases h : i < 16
  · simp [h]
  · rw [hb (by omega)]
    simp
theorem vd_mkK_o {K : KT} {src a b j : Nat} (h4 : j ≠ 4) (h5 : j ≠ 5) (h6 : j ≠ 6) (h7 : j ≠ 7) (h8 : j ≠ 8) (h9 : j ≠ 9) (h10 : j ≠ 10) (h11 : j ≠ 11) (h12 : j ≠ 12) (h13 : j ≠ 13) (h43 : j ≠ 43) (h44 : j ≠ 44) (h45 : j ≠ 45) (h46 : j ≠ 46) : vd_mkK K src a b j = K j := by
  show vd_st (vd_st (vd_st (vd_st (vd_st (vd_krK (vd_st K 43 0 (K 43 0 + 1)) src) 4 _ _) 5 _ _) 6 _ _) 7 _ _) 44 _ _ j = K j
  rw [vd_st_o h44, vd_st_o h7, vd_st_o h6, vd_st_o h5, vd_st_o h4, vd_krK_o h8 h9 h10 h11 h12 h13 h45 h46, vd_st_o h43]
theorem vd_mkK_3 {K : KT} {src a b : Nat} : vd_mkK K src a b 3 = K 3 := vd_mkK_o (by decide) (by decide) (by decide) (by decide) (by decide) (by decide) (by decide) (by decide) (by decide) (by decide) (by decide) (by decide) (by decide) (by decide)
theorem vd_mkK_40 {K : KT} {src a b : Nat} : vd_mkK K src a b 40 = K 40 := vd_mkK_o (by decide) (by decide) (by decide) (by decide) (by decide) (by decide) (by decide) (by decide) (by decide) (by decide) (by decide) (by decide) (by decide) (by decide)
/-! the class's operations: answer and state -/
def vd_cmR (K : KT) : Int32 := if K 42 0 ≠ 0 then (-5 : Int32) else if K 41 0 = 0 ∧ vd_ash K 1 = true then (-3 : Int32) else if 30 ≤ K 43 0 then (-2 : Int32) else nI (K 43 0 + 1)
def vd_cmK (K : KT) : KT := if K 42 0 ≠ 0 then K else if K 41 0 = 0 ∧ vd_ash K 1 = true then K else if 30 ≤ K 43 0 then K else vd_st (vd_st (vd_mkK K 1 (vd_here K) (K 41 0)) 3 (K 40 0) (K 43 0 + 1)) 41 0 0
def vd_stK (K : KT) (f : Nat) : KT := vd_st (vd_bk (vd_st K 1 f (K 0 f)) (K 0 f)) 42 0 (vd_clr (K 42 0) f)
def vd_tuR (K : KT) (x : Int32) : Int32 := if vd_there K x = false ∨ K 41 0 ≠ 0 then (-1 : Int32) else if vd_tidy K = false then (-4 : Int32) else nI (K 3 x.toNatClampNeg)
def vd_tuK (K : KT) (x : Int32) : KT := if vd_there K x = false ∨ K 41 0 ≠ 0 then K else if vd_tidy K = false then K else vd_mv (vd_st K 40 0 x.toNatClampNeg) (K 3 x.toNatClampNeg)
/-- merge of commits that neither leads to the other -/
def vd_mask (K : KT) (o b : Nat) : Nat := vd_mk (fun f => vd_clash K o b f) 16
def vd_base (K : KT) (o : Nat) : Nat := vd_top (K 7 (vd_here K) &&& K 7 o) 30
def vd_maR (K : KT) (o : Nat) : Int32 := if vd_mask K o (vd_base K o) = 0 then (if 30 ≤ K 43 0 then (-2 : Int32) else nI (K 43 0 + 1)) else (-5 : Int32)
def vd_maK (K : KT) (o : Nat) : KT :=
  let K1 := vd_mix K o (vd_base K o)
  if vd_mask K o (vd_base K o) = 0 then (if 30 ≤ K 43 0 then K1 else vd_mv (vd_mkK K1 2 (vd_here K) o) (K 43 0 + 1))
  else vd_st (vd_st (vd_fl (vd_fl K1 1 0 16 (fun b => K1 2 (0 + b))) 0 0 16 (fun b => K1 2 (0 + b))) 41 0 o) 42 0 (vd_mask K o (vd_base K o))
def vd_meR (K : KT) (x : Int32) : Int32 :=
  if vd_there K x = false ∨ vd_here K = 0 ∨ K 41 0 ≠ 0 then (-1 : Int32) else if vd_tidy K = false then (-4 : Int32)
  else if (K 7 (vd_here K)).testBit (K 3 x.toNatClampNeg) = true then nI 0
  else if (K 7 (K 3 x.toNatClampNeg)).testBit (vd_here K) = true then nI (K 3 x.toNatClampNeg) else vd_maR K (K 3 x.toNatClampNeg)
def vd_meK (K : KT) (x : Int32) : KT :=
  if vd_there K x = false ∨ vd_here K = 0 ∨ K 41 0 ≠ 0 then K else if vd_tidy K = false then K
  else if (K 7 (vd_here K)).testBit (K 3 x.toNatClampNeg) = true then K
  else if (K 7 (K 3 x.toNatClampNeg)).testBit (vd_here K) = true then vd_mv K (K 3 x.toNatClampNeg) else vd_maK K (K 3 x.toNatClampNeg)
def vd_piR (K : KT) (x : Int32) : Int32 :=
  if vd_hol K x = false ∨ vd_here K = 0 ∨ K 41 0 ≠ 0 then (-1 : Int32) else if vd_tidy K = false then (-4 : Int32)
  else if vd_mask K x.toNatClampNeg (K 5 x.toNatClampNeg) ≠ 0 then (-5 : Int32)
  else if vd_ash (vd_mix K x.toNatClampNeg (K 5 x.toNatClampNeg)) 2 = true then (-3 : Int32) else if 30 ≤ K 43 0 then (-2 : Int32) else nI (K 43 0 + 1)
def vd_piK (K : KT) (x : Int32) : KT :=
  if vd_hol K x = false ∨ vd_here K = 0 ∨ K 41 0 ≠ 0 then K else if vd_tidy K = false then K
  else if vd_mask K x.toNatClampNeg (K 5 x.toNatClampNeg) ≠ 0 then vd_mix K x.toNatClampNeg (K 5 x.toNatClampNeg)
  else if vd_ash (vd_mix K x.toNatClampNeg (K 5 x.toNatClampNeg)) 2 = true then vd_mix K x.toNatClampNeg (K 5 x.toNatClampNeg) else if 30 ≤ K 43 0 then vd_mix K x.toNatClampNeg (K 5 x.toNatClampNeg)
  else vd_mv (vd_mkK (vd_mix K x.toNatClampNeg (K 5 x.toNatClampNeg)) 2 (vd_here K) 0) (K 43 0 + 1)
def vd_need (K : KT) : Nat → Nat
  | 0 => K 7 (K 41 0)
  | n + 1 => vd_need K n ||| K 7 (K 3 n)
def vd_swK (K : KT) : KT := vd_bks (vd_koK K (vd_need K 6)) 1 0 16
theorem vd_there_t {K : KT} {x : Int32} (h : vd_there K x = true) : ∃ c : Nat, 0 ≤ c ∧ c ≤ 5 ∧ x = nI c ∧ K 3 c ≠ 0 := by
  unfold vd_there at h
  rw [Bool.and_eq_true] at h
  obtain ⟨c, h1, h2, rfl⟩ := vd_in_t h.1
  rw [nI_clamp (by omega)] at h
  exact ⟨c, h1, h2, rfl, by simpa using h.2⟩
theorem vd_pow64 {y : Nat} (h : y < 64) : 2 ^ y < 2 ^ 64 := Nat.pow_lt_pow_right (by decide) h
theorem vd_or64 {x y : Nat} (hx : x ≤ 18446744073709551615) (hy : y < 2 ^ 64) : x ||| y ≤ 18446744073709551615 :=
  Nat.le_of_lt_succ (Nat.or_lt_two_pow (n := 64) (Nat.lt_succ_of_le hx) hy)
theorem vd_lshl : ∀ y, y < 64 → lN 1 <<< ((nI y).toInt64 &&& 63) = lN (2 ^ y) := by decide +kernel
theorem vd_lorE {a b : Nat} (ha : a < 2 ^ 64) (hb : b < 2 ^ 64) : lN a ||| lN b = lN (a ||| b) := by
  apply Int64.toBitVec_inj.1
  show BitVec.ofNat 64 a ||| BitVec.ofNat 64 b = BitVec.ofNat 64 (a ||| b)
  apply BitVec.eq_of_getLsbD_eq
  intro i hi
  simp [hi]
section VDS
variable {p : Program} {l : Launch} {e : Env} {R : Room} {s : State} {m : MethodId} {args : Array Value} {below : List Frame} {meth : Method} {c : Code} {H : Heap} {locs : List Loc} {Q : State → Prop}
variable {cells slots : Nat} {cc : ByteArray} {pc : Nat} {ls : Array Slot} {rest : List Value}
theorem vd_lor (hx : p.tables.exec = Jvm.exec) (hb : c.code = cc) {x y : Nat} (h1 : x < 2 ^ 64) (h2 : y < 2 ^ 64) (hdg : decode cc pc = .ok (.lor, 1)) (k : W p l e R s m args below meth c H locs cells slots Q (F0 m (pc + 1) ls (.long (lN (x ||| y)) :: rest))) : W p l e R s m args below meth c H locs cells slots Q (F0 m pc ls (.long (lN y) :: .long (lN x) :: rest)) := lv_lor hx hb hdg (by rw [vd_lorE h1 h2]; exact k)
theorem vd_iclr (hx : p.tables.exec = Jvm.exec) (hb : c.code = cc) {x f : Nat} (h1 : x ≤ 65535) (h2 : f < 16) (hdg : decode cc pc = .ok (.iand, 1)) (k : W p l e R s m args below meth c H locs cells slots Q (F0 m (pc + 1) ls (.int (nI (vd_clr x f)) :: rest))) : W p l e R s m args below meth c H locs cells slots Q (F0 m pc ls (.int (nI (2 ^ f) ^^^ (-1 : Int32)) :: .int (nI x) :: rest)) := lv_iand hx hb hdg (by rw [vd_clrI h1 h2]; exact k)
end VDS
theorem vd_sw2 (x : Int32) : (x.toInt < 0 ∨ 1 < x.toInt) ∨ x = nI 0 ∨ x = nI 1 := by
  by_cases h1 : x.toInt < 0
  · exact Or.inl (Or.inl h1)
  · by_cases h2 : 1 < x.toInt
    · exact Or.inl (Or.inr h2)
    · obtain ⟨c, _, hc, rfl⟩ := vd_ofI (lo := 0) (hi := 1) (x := x) (by omega) (by omega)
      rcases (show c = 0 ∨ c = 1 by omega) with rfl | rfl
      · exact Or.inr (Or.inl rfl)
      · exact Or.inr (Or.inr rfl)
theorem vd_sw10 (x : Int32) : (x.toInt < 0 ∨ 9 < x.toInt) ∨ x = nI 0 ∨ x = nI 1 ∨ x = nI 2 ∨ x = nI 3 ∨ x = nI 4 ∨ x = nI 5 ∨ x = nI 6 ∨ x = nI 7 ∨ x = nI 8 ∨ x = nI 9 := by
  by_cases h1 : x.toInt < 0
  · exact Or.inl (Or.inl h1)
  · by_cases h2 : 9 < x.toInt
    · exact Or.inl (Or.inr h2)
    · obtain ⟨c, _, hc, rfl⟩ := vd_ofI (lo := 0) (hi := 9) (x := x) (by omega) (by omega)
      refine Or.inr ?_
      rcases (show c = 0 ∨ c = 1 ∨ c = 2 ∨ c = 3 ∨ c = 4 ∨ c = 5 ∨ c = 6 ∨ c = 7 ∨ c = 8 ∨ c = 9 by omega) with rfl | rfl | rfl | rfl | rfl | rfl | rfl | rfl | rfl | rfl <;> simp
/-- count: which number, for the class and for the reference -/
def vd_ct (n : Nat → Nat) (x : Int32) : Int32 := if vd_in 0 9 x = true then nI (n x.toNatClampNeg) else (-1 : Int32)
theorem vd_ct_o {n : Nat → Nat} {x : Int32} (h : x.toInt < 0 ∨ 9 < x.toInt) : (-1 : Int32) = vd_ct n x := by
  unfold vd_ct
  rcases h with h | h
  · rw [vd_in_l (by omega)]
    rfl
  · rw [vd_in_h (by omega)]
    rfl
theorem vd_ct_i {n : Nat → Nat} {c : Nat} (h : c ≤ 9) : nI (n c) = vd_ct n (nI c) := by
  unfold vd_ct
  rw [vd_in_n (Nat.zero_le _) h (by decide), if_pos rfl, nI_clamp (by omega)]
def vd_ctN (K : KT) : Nat → Nat
  | 0 => vd_bsz K 157
  | 1 => vd_rsz K 11 45
  | 2 => vd_rsz K 13 46
  | 3 => vd_pc 32 (K 44 0)
  | 4 => K 43 0
  | 5 => K 40 0
  | 6 => vd_here K
  | 7 => K 41 0
  | 8 => vd_pc 32 (K 42 0)
  | _ => vd_un K
def vd_dif (K : KT) (a b : Nat) : Nat := vd_cn (fun f => vd_cnt K a f != vd_cnt K b f) 16
/-! the reference's operations -/
def vd_cmRM (K : KT) : Int32 := if vd_clM K ≠ 0 then (-5 : Int32) else if K 49 0 = 0 ∧ vd_same K 32 (vd_hereM K) = true then (-3 : Int32) else if K 47 0 = 30 then (-2 : Int32) else nI (K 47 0 + 1)
def vd_cmKM (K : KT) : KT := if vd_clM K ≠ 0 then K else if K 49 0 = 0 ∧ vd_same K 32 (vd_hereM K) = true then K else if K 47 0 = 30 then K else vd_mkM (vd_st K 49 0 0) 32 (if vd_hereM K ≠ 0 then vd_hereM K else K 49 0) (if vd_hereM K ≠ 0 then K 49 0 else 0)
def vd_thM (K : KT) (x : Int32) : Bool := vd_in 0 5 x && (K 18 x.toNatClampNeg != 0)
def vd_tuRM (K : KT) (x : Int32) : Int32 := if vd_thM K x = false ∨ K 49 0 ≠ 0 then (-1 : Int32) else if vd_tidyM K = false then (-4 : Int32) else nI (K 18 x.toNatClampNeg)
def vd_tuKM (K : KT) (x : Int32) : KT := if vd_thM K x = false ∨ K 49 0 ≠ 0 then K else if vd_tidyM K = false then K else vd_shw (vd_st K 48 0 x.toNatClampNeg) (K 18 x.toNatClampNeg)
def vd_xn (K : KT) (x y z : Nat) : Nat := vd_cn (fun f => vd_xcl K x y z f) 16
def vd_meK2 (K : KT) (c : Nat) : KT :=
  let K1 := vd_shK K (vd_hereM K) c
  let b := vd_shr K (vd_hereM K) c
  if b = c then K1 else if b = vd_hereM K1 then vd_shw (vd_st K1 18 (K1 48 0) c) c else
  let K2 := vd_mxl K1 (vd_hereM K1) c b 0 16
  if vd_xn K1 (vd_hereM K1) c b = 0 then (if K2 47 0 = 30 then K2 else vd_shw (vd_mkM K2 33 (vd_hereM K2) c) (vd_hereM (vd_mkM K2 33 (vd_hereM K2) c)))
  else vd_st (vd_shw (vd_mxl K2 (vd_hereM K2) c b 1 16) 33) 49 0 c
def vd_meR2 (K : KT) (c : Nat) : Int32 :=
  let K1 := vd_shK K (vd_hereM K) c
  let b := vd_shr K (vd_hereM K) c
  if b = c then nI 0 else if b = vd_hereM K1 then nI c else
  let K2 := vd_mxl K1 (vd_hereM K1) c b 0 16
  if vd_xn K1 (vd_hereM K1) c b = 0 then (if K2 47 0 = 30 then (-2 : Int32) else nI (vd_hereM (vd_shw (vd_mkM K2 33 (vd_hereM K2) c) (vd_hereM (vd_mkM K2 33 (vd_hereM K2) c)))))
  else (-5 : Int32)
def vd_meRM (K : KT) (x : Int32) : Int32 := if vd_thM K x = false ∨ vd_hereM K = 0 ∨ K 49 0 ≠ 0 then (-1 : Int32) else if vd_tidyM K = false then (-4 : Int32) else vd_meR2 K (K 18 x.toNatClampNeg)
def vd_meKM (K : KT) (x : Int32) : KT := if vd_thM K x = false ∨ vd_hereM K = 0 ∨ K 49 0 ≠ 0 then K else if vd_tidyM K = false then K else vd_meK2 K (K 18 x.toNatClampNeg)
def vd_piK2 (K : KT) (c : Nat) : KT :=
  let K1 := vd_mxl K (vd_hereM K) c (K 16 c) 0 16
  if vd_xn K (vd_hereM K) c (K 16 c) ≠ 0 then K1 else if vd_same K1 33 (vd_hereM K1) = true then K1 else if K1 47 0 = 30 then K1 else
  vd_shw (vd_mkM K1 33 (vd_hereM K1) 0) (vd_hereM (vd_mkM K1 33 (vd_hereM K1) 0))
def vd_piR2 (K : KT) (c : Nat) : Int32 :=
  let K1 := vd_mxl K (vd_hereM K) c (K 16 c) 0 16
  if vd_xn K (vd_hereM K) c (K 16 c) ≠ 0 then (-5 : Int32) else if vd_same K1 33 (vd_hereM K1) = true then (-3 : Int32) else if K1 47 0 = 30 then (-2 : Int32) else
  nI (vd_hereM (vd_shw (vd_mkM K1 33 (vd_hereM K1) 0) (vd_hereM (vd_mkM K1 33 (vd_hereM K1) 0))))
def vd_piRM (K : KT) (x : Int32) : Int32 := if vd_stoM K x = false ∨ vd_hereM K = 0 ∨ K 49 0 ≠ 0 then (-1 : Int32) else if vd_tidyM K = false then (-4 : Int32) else vd_piR2 K x.toNatClampNeg
def vd_piKM (K : KT) (x : Int32) : KT := if vd_stoM K x = false ∨ vd_hereM K = 0 ∨ K 49 0 ≠ 0 then K else if vd_tidyM K = false then K else vd_piK2 K x.toNatClampNeg
def vd_obM (K : KT) : Nat := vd_c0 K + vd_c1 K + vd_c2 K + vd_c3 K
def vd_ctM (K : KT) : Nat → Nat
  | 0 => vd_c0 K
  | 1 => vd_c1 K
  | 2 => vd_c2 K
  | 3 => vd_c3 K
  | 4 => K 47 0
  | 5 => K 48 0
  | 6 => vd_hereM K
  | 7 => K 49 0
  | 8 => vd_clM K
  | _ => vd_chg K
/-- sweep: the marked ones of a run of branches -/
def vd_or2 (K : KT) : Nat → KT
  | 0 => K
  | k + 1 => if K 21 (k + 1) ≠ 0 then vd_st (vd_or2 K k) 22 (k + 1) 1 else vd_or2 K k
theorem vd_or2_s (K : KT) (k : Nat) : vd_or2 K (k + 1) = if K 21 (k + 1) ≠ 0 then vd_st (vd_or2 K k) 22 (k + 1) 1 else vd_or2 K k := rfl
def vd_swb (K : KT) (b : Nat) : Nat := if b < 6 then K 18 b else K 49 0
def vd_sw1 (K : KT) : Nat → KT
  | 0 => K
  | b + 1 => vd_or2 (vd_mar (vd_sw1 K b) (vd_swb K b)) 30
theorem vd_sw1_s (K : KT) (b : Nat) : vd_sw1 K (b + 1) = vd_or2 (vd_mar (vd_sw1 K b) (vd_swb K b)) 30 := rfl
def vd_bl3 (K : KT) (k : Nat) : Nat → KT
  | 0 => K
  | f + 1 => if K 15 k ≠ 0 then vd_st (vd_bl3 K k f) 20 (K 14 (16 * k + f)) 1 else vd_bl3 K k f
theorem vd_bl3_s (K : KT) (k f : Nat) : vd_bl3 K k (f + 1) = if K 15 k ≠ 0 then vd_st (vd_bl3 K k f) 20 (K 14 (16 * k + f)) 1 else vd_bl3 K k f := rfl
def vd_sw3 (K : KT) : Nat → KT
  | 0 => K
  | k + 1 => vd_bl3 (vd_st (vd_sw3 K k) 15 (k + 1) (K 22 (k + 1))) (k + 1) 16
theorem vd_sw3_s (K : KT) (k : Nat) : vd_sw3 K (k + 1) = vd_bl3 (vd_st (vd_sw3 K k) 15 (k + 1) (K 22 (k + 1))) (k + 1) 16 := rfl
def vd_sw4 (K : KT) : Nat → KT
  | 0 => K
  | f + 1 => vd_st (vd_sw4 K f) 20 (K 14 (512 + f)) 1
theorem vd_sw4_s (K : KT) (f : Nat) : vd_sw4 K (f + 1) = vd_st (vd_sw4 K f) 20 (K 14 (512 + f)) 1 := rfl
def vd_swKM (K : KT) : KT := vd_st (vd_sw4 (vd_sw3 (vd_fl (vd_sw1 (vd_fl K 22 0 31 (fun _ => 0)) 7) 20 0 10000 (fun _ => 0)) 30) 16) 20 0 0
theorem vd_mk1_o (K : KT) (j : Nat) {a : Nat} (h : a ≠ 21) : vd_mk1 K j a = K a := by
  unfold vd_mk1
  split
  · rw [vd_st_o h, vd_st_o h]
  · rfl
theorem vd_mkd_o {a : Nat} (h : a ≠ 21) : ∀ (j : Nat) (K : KT), vd_mkd j K a = K a
  | 0, K => rfl
  | j + 1, K => by
    rw [vd_mkd_s]
    rw [vd_mkd_o h j, vd_mk1_o _ _ h]
theorem vd_mar_o (K : KT) (c : Nat) {a : Nat} (h : a ≠ 21) : vd_mar K c a = K a := by
  unfold vd_mar vd_mk0
  rw [vd_st_o h, vd_mkd_o h, vd_fl_o h]
theorem vd_shK_o (K : KT) (x y : Nat) {a : Nat} (h : a ≠ 21) (h2 : a ≠ 22) : vd_shK K x y a = K a := by
  unfold vd_shK
  rw [vd_mar_o _ _ h, vd_fl_o h2, vd_mar_o _ _ h]
theorem vd_mxl_o (K : KT) (x y z w : Nat) {a : Nat} (h : a ≠ 14) (h2 : a ≠ 19) : ∀ i, vd_mxl K x y z w i a = K a
  | 0 => rfl
  | i + 1 => by
    rw [vd_mxl_s]
    split
    · rw [vd_st_o h2, vd_st_o h, vd_mxl_o K x y z w h h2 i]
    · rw [vd_st_o h, vd_mxl_o K x y z w h h2 i]
theorem vd_or2_o (K : KT) {a : Nat} (h : a ≠ 22) : ∀ k, vd_or2 K k a = K a
  | 0 => rfl
  | k + 1 => by
    rw [vd_or2_s]
    split
    · rw [vd_st_o h, vd_or2_o K h k]
    · rw [vd_or2_o K h k]
theorem vd_sw1_o (K : KT) {a : Nat} (h : a ≠ 22) (h2 : a ≠ 21) : ∀ k, vd_sw1 K k a = K a
  | 0 => rfl
  | k + 1 => by
    rw [vd_sw1_s]
    rw [vd_or2_o _ h, vd_mar_o _ _ h2, vd_sw1_o K h h2 k]
theorem vd_bl3_o (K : KT) (k : Nat) {a : Nat} (h : a ≠ 20) : ∀ f, vd_bl3 K k f a = K a
  | 0 => rfl
  | f + 1 => by
    rw [vd_bl3_s]
    split
    · rw [vd_st_o h, vd_bl3_o K k h f]
    · rw [vd_bl3_o K k h f]
theorem vd_sw3_o (K : KT) {a : Nat} (h : a ≠ 20) (h2 : a ≠ 15) : ∀ k, vd_sw3 K k a = K a
  | 0 => rfl
  | k + 1 => by
    rw [vd_sw3_s]
    rw [vd_bl3_o _ _ h, vd_st_o h2, vd_sw3_o K h h2 k]
theorem vd_sw4_o (K : KT) {a : Nat} (h : a ≠ 20) : ∀ f, vd_sw4 K f a = K a
  | 0 => rfl
  | f + 1 => by
    rw [vd_sw4_s]
    rw [vd_st_o h, vd_sw4_o K h f]
theorem vd_frs0 {t q : Nat} {X : Prop} {P : Nat → Prop} (h : t ≠ 0 ↔ (X ∧ ∀ b, 1 ≤ b → b < q + 1 → ¬ P b)) (hp : P (q + 1)) : (0 : Nat) ≠ 0 ↔ (X ∧ ∀ b, 1 ≤ b → b < q + 1 + 1 → ¬ P b) :=
  ⟨fun z => absurd rfl z, fun z => absurd hp (z.2 (q + 1) (by omega) (by omega))⟩
theorem vd_frs1 {t q : Nat} {X : Prop} {P : Nat → Prop} (h : t ≠ 0 ↔ (X ∧ ∀ b, 1 ≤ b → b < q + 1 → ¬ P b)) (hp : ¬ P (q + 1)) : t ≠ 0 ↔ (X ∧ ∀ b, 1 ≤ b → b < q + 1 + 1 → ¬ P b) := by
  rw [h]
  refine ⟨fun z => ⟨z.1, fun b h1 h2 => ?_⟩, fun z => ⟨z.1, fun b h1 h2 => z.2 b h1 (by omega)⟩⟩
  by_cases e : b = q + 1
  · subst e
    exact hp
  · exact z.2 b h1 (by omega)
theorem vd_frt0 {t u : Nat} {X : Prop} {P : Nat → Prop} (h : t ≠ 0 ↔ (X ∧ ∀ b, b < u → ¬ P b)) (hp : P u) : (0 : Nat) ≠ 0 ↔ (X ∧ ∀ b, b < u + 1 → ¬ P b) :=
  ⟨fun z => absurd rfl z, fun z => absurd hp (z.2 u (by omega))⟩
theorem vd_frt1 {t u : Nat} {X : Prop} {P : Nat → Prop} (h : t ≠ 0 ↔ (X ∧ ∀ b, b < u → ¬ P b)) (hp : ¬ P u) : t ≠ 0 ↔ (X ∧ ∀ b, b < u + 1 → ¬ P b) := by
  rw [h]
  refine ⟨fun z => ⟨z.1, fun b h2 => ?_⟩, fun z => ⟨z.1, fun b h2 => z.2 b (by omega)⟩⟩
  by_cases e : b = u
  · subst e
    exact hp
  · exact z.2 b (by omega)
theorem vd_frt2 {t u : Nat} {X : Prop} {P : Nat → Prop} (h : t ≠ 0 ↔ (X ∧ ∀ b, b < u → ¬ P b)) (hp : t = 0) : t ≠ 0 ↔ (X ∧ ∀ b, b < u + 1 → ¬ P b) :=
  ⟨fun z => absurd hp z, fun z => h.mpr ⟨z.1, fun b h2 => z.2 b (by omega)⟩⟩
end
