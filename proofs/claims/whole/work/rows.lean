section
-- ===== PART A: goes FIRST, ahead of the names: the tables' words, and 'selects' of the private methods out of them =====
/-- a private method of a class that the tables say can be made, by its rows of tables_1 -/
def lw_okq (q : MethodName × Nat) : Prop := (q.1.cls ≠ "java/lang/invoke/MethodHandle" ∧ q.1.cls ≠ "java/lang/invoke/VarHandle") ∧ Cond.instantiable q.1.cls q.2 ∈ tables_1 ∧ Cond.privateMethod q.1 ∈ tables_1 ∧ Cond.instanceMethod q.1 ∈ tables_1
theorem lw_p0 : lw_okq (⟨"VersionDepot", "isAsHere", "([I)Z"⟩, 8) := ⟨⟨by decide +kernel, by decide +kernel⟩, List.mem_of_getElem? (i := 10) (by decide +kernel), List.mem_of_getElem? (i := 132) (by decide +kernel), List.mem_of_getElem? (i := 133) (by decide +kernel)⟩
theorem lw_p1 : lw_okq (⟨"VersionDepot", "here", "()I"⟩, 8) := ⟨⟨by decide +kernel, by decide +kernel⟩, List.mem_of_getElem? (i := 10) (by decide +kernel), List.mem_of_getElem? (i := 136) (by decide +kernel), List.mem_of_getElem? (i := 137) (by decide +kernel)⟩
theorem lw_p2 : lw_okq (⟨"VersionDepot", "isThere", "(I)Z"⟩, 8) := ⟨⟨by decide +kernel, by decide +kernel⟩, List.mem_of_getElem? (i := 10) (by decide +kernel), List.mem_of_getElem? (i := 187) (by decide +kernel), List.mem_of_getElem? (i := 188) (by decide +kernel)⟩
theorem lw_p3 : lw_okq (⟨"VersionDepot", "isTidy", "()Z"⟩, 8) := ⟨⟨by decide +kernel, by decide +kernel⟩, List.mem_of_getElem? (i := 10) (by decide +kernel), List.mem_of_getElem? (i := 191) (by decide +kernel), List.mem_of_getElem? (i := 192) (by decide +kernel)⟩
theorem lw_p4 : lw_okq (⟨"VersionDepot", "unstaged", "()I"⟩, 8) := ⟨⟨by decide +kernel, by decide +kernel⟩, List.mem_of_getElem? (i := 10) (by decide +kernel), List.mem_of_getElem? (i := 195) (by decide +kernel), List.mem_of_getElem? (i := 196) (by decide +kernel)⟩
theorem lw_p5 : lw_okq (⟨"VersionDepot", "moveTo", "(I)I"⟩, 8) := ⟨⟨by decide +kernel, by decide +kernel⟩, List.mem_of_getElem? (i := 10) (by decide +kernel), List.mem_of_getElem? (i := 199) (by decide +kernel), List.mem_of_getElem? (i := 200) (by decide +kernel)⟩
theorem lw_p6 : lw_okq (⟨"VersionDepot", "mergeApart", "(I)I"⟩, 8) := ⟨⟨by decide +kernel, by decide +kernel⟩, List.mem_of_getElem? (i := 10) (by decide +kernel), List.mem_of_getElem? (i := 211) (by decide +kernel), List.mem_of_getElem? (i := 212) (by decide +kernel)⟩
theorem lw_p7 : lw_okq (⟨"VersionDepot", "mixHereWith", "(II)I"⟩, 8) := ⟨⟨by decide +kernel, by decide +kernel⟩, List.mem_of_getElem? (i := 10) (by decide +kernel), List.mem_of_getElem? (i := 219) (by decide +kernel), List.mem_of_getElem? (i := 220) (by decide +kernel)⟩
theorem lw_p8 : lw_okq (⟨"VersionDepotModel", "clashes", "()I"⟩, 12) := ⟨⟨by decide +kernel, by decide +kernel⟩, List.mem_of_getElem? (i := 341) (by decide +kernel), List.mem_of_getElem? (i := 399) (by decide +kernel), List.mem_of_getElem? (i := 400) (by decide +kernel)⟩
theorem lw_p9 : lw_okq (⟨"VersionDepotModel", "here", "()I"⟩, 12) := ⟨⟨by decide +kernel, by decide +kernel⟩, List.mem_of_getElem? (i := 341) (by decide +kernel), List.mem_of_getElem? (i := 403) (by decide +kernel), List.mem_of_getElem? (i := 404) (by decide +kernel)⟩
theorem lw_p10 : lw_okq (⟨"VersionDepotModel", "same", "(II)Z"⟩, 12) := ⟨⟨by decide +kernel, by decide +kernel⟩, List.mem_of_getElem? (i := 341) (by decide +kernel), List.mem_of_getElem? (i := 407) (by decide +kernel), List.mem_of_getElem? (i := 408) (by decide +kernel)⟩
theorem lw_p11 : lw_okq (⟨"VersionDepotModel", "make", "(III)I"⟩, 12) := ⟨⟨by decide +kernel, by decide +kernel⟩, List.mem_of_getElem? (i := 341) (by decide +kernel), List.mem_of_getElem? (i := 411) (by decide +kernel), List.mem_of_getElem? (i := 412) (by decide +kernel)⟩
theorem lw_p12 : lw_okq (⟨"VersionDepotModel", "copy", "(II)V"⟩, 12) := ⟨⟨by decide +kernel, by decide +kernel⟩, List.mem_of_getElem? (i := 341) (by decide +kernel), List.mem_of_getElem? (i := 415) (by decide +kernel), List.mem_of_getElem? (i := 416) (by decide +kernel)⟩
theorem lw_p13 : lw_okq (⟨"VersionDepotModel", "tidy", "()Z"⟩, 12) := ⟨⟨by decide +kernel, by decide +kernel⟩, List.mem_of_getElem? (i := 341) (by decide +kernel), List.mem_of_getElem? (i := 427) (by decide +kernel), List.mem_of_getElem? (i := 428) (by decide +kernel)⟩
theorem lw_p14 : lw_okq (⟨"VersionDepotModel", "show", "(I)V"⟩, 12) := ⟨⟨by decide +kernel, by decide +kernel⟩, List.mem_of_getElem? (i := 341) (by decide +kernel), List.mem_of_getElem? (i := 431) (by decide +kernel), List.mem_of_getElem? (i := 432) (by decide +kernel)⟩
theorem lw_p15 : lw_okq (⟨"VersionDepotModel", "shared", "(II)I"⟩, 12) := ⟨⟨by decide +kernel, by decide +kernel⟩, List.mem_of_getElem? (i := 341) (by decide +kernel), List.mem_of_getElem? (i := 439) (by decide +kernel), List.mem_of_getElem? (i := 440) (by decide +kernel)⟩
def lw_privs_1 : List (MethodName × Nat) := [(⟨"VersionDepot", "isAsHere", "([I)Z"⟩, 8), (⟨"VersionDepot", "here", "()I"⟩, 8), (⟨"VersionDepot", "isThere", "(I)Z"⟩, 8), (⟨"VersionDepot", "isTidy", "()Z"⟩, 8), (⟨"VersionDepot", "unstaged", "()I"⟩, 8), (⟨"VersionDepot", "moveTo", "(I)I"⟩, 8), (⟨"VersionDepot", "mergeApart", "(I)I"⟩, 8), (⟨"VersionDepot", "mixHereWith", "(II)I"⟩, 8), (⟨"VersionDepotModel", "clashes", "()I"⟩, 12), (⟨"VersionDepotModel", "here", "()I"⟩, 12), (⟨"VersionDepotModel", "same", "(II)Z"⟩, 12), (⟨"VersionDepotModel", "make", "(III)I"⟩, 12), (⟨"VersionDepotModel", "copy", "(II)V"⟩, 12), (⟨"VersionDepotModel", "tidy", "()Z"⟩, 12), (⟨"VersionDepotModel", "show", "(I)V"⟩, 12), (⟨"VersionDepotModel", "shared", "(II)I"⟩, 12)]
theorem lw_r1 : ∀ q ∈ lw_privs_1, lw_okq q := List.forall_mem_cons.mpr ⟨lw_p0, List.forall_mem_cons.mpr ⟨lw_p1, List.forall_mem_cons.mpr ⟨lw_p2, List.forall_mem_cons.mpr ⟨lw_p3, List.forall_mem_cons.mpr ⟨lw_p4, List.forall_mem_cons.mpr ⟨lw_p5, List.forall_mem_cons.mpr ⟨lw_p6, List.forall_mem_cons.mpr ⟨lw_p7, List.forall_mem_cons.mpr ⟨lw_p8, List.forall_mem_cons.mpr ⟨lw_p9, List.forall_mem_cons.mpr ⟨lw_p10, List.forall_mem_cons.mpr ⟨lw_p11, List.forall_mem_cons.mpr ⟨lw_p12, List.forall_mem_cons.mpr ⟨lw_p13, List.forall_mem_cons.mpr ⟨lw_p14, List.forall_mem_cons.mpr ⟨lw_p15, fun _ h => absurd h List.not_mem_nil⟩⟩⟩⟩⟩⟩⟩⟩⟩⟩⟩⟩⟩⟩⟩⟩
theorem lw_p16 : lw_okq (⟨"VersionDepotModel", "mark", "(I)V"⟩, 12) := ⟨⟨by decide +kernel, by decide +kernel⟩, List.mem_of_getElem? (i := 341) (by decide +kernel), List.mem_of_getElem? (i := 443) (by decide +kernel), List.mem_of_getElem? (i := 444) (by decide +kernel)⟩
theorem lw_p17 : lw_okq (⟨"VersionDepotModel", "mix", "(IIIZ)I"⟩, 12) := ⟨⟨by decide +kernel, by decide +kernel⟩, List.mem_of_getElem? (i := 341) (by decide +kernel), List.mem_of_getElem? (i := 447) (by decide +kernel), List.mem_of_getElem? (i := 448) (by decide +kernel)⟩
theorem lw_p18 : lw_okq (⟨"VersionDepotModel", "isStored", "(I)Z"⟩, 12) := ⟨⟨by decide +kernel, by decide +kernel⟩, List.mem_of_getElem? (i := 341) (by decide +kernel), List.mem_of_getElem? (i := 459) (by decide +kernel), List.mem_of_getElem? (i := 460) (by decide +kernel)⟩
theorem lw_p19 : lw_okq (⟨"VersionDepotModel", "objects", "()I"⟩, 12) := ⟨⟨by decide +kernel, by decide +kernel⟩, List.mem_of_getElem? (i := 341) (by decide +kernel), List.mem_of_getElem? (i := 475) (by decide +kernel), List.mem_of_getElem? (i := 476) (by decide +kernel)⟩
theorem lw_p20 : lw_okq (⟨"VersionDepotModel", "folders", "()I"⟩, 12) := ⟨⟨by decide +kernel, by decide +kernel⟩, List.mem_of_getElem? (i := 341) (by decide +kernel), List.mem_of_getElem? (i := 483) (by decide +kernel), List.mem_of_getElem? (i := 484) (by decide +kernel)⟩
theorem lw_p21 : lw_okq (⟨"VersionDepotModel", "alike", "(II)Z"⟩, 12) := ⟨⟨by decide +kernel, by decide +kernel⟩, List.mem_of_getElem? (i := 341) (by decide +kernel), List.mem_of_getElem? (i := 487) (by decide +kernel), List.mem_of_getElem? (i := 488) (by decide +kernel)⟩
theorem lw_p22 : lw_okq (⟨"VersionDepotModel", "roots", "()I"⟩, 12) := ⟨⟨by decide +kernel, by decide +kernel⟩, List.mem_of_getElem? (i := 341) (by decide +kernel), List.mem_of_getElem? (i := 491) (by decide +kernel), List.mem_of_getElem? (i := 492) (by decide +kernel)⟩
theorem lw_p23 : lw_okq (⟨"VersionDepotModel", "changed", "()I"⟩, 12) := ⟨⟨by decide +kernel, by decide +kernel⟩, List.mem_of_getElem? (i := 341) (by decide +kernel), List.mem_of_getElem? (i := 495) (by decide +kernel), List.mem_of_getElem? (i := 496) (by decide +kernel)⟩
def lw_privs_2 : List (MethodName × Nat) := [(⟨"VersionDepotModel", "mark", "(I)V"⟩, 12), (⟨"VersionDepotModel", "mix", "(IIIZ)I"⟩, 12), (⟨"VersionDepotModel", "isStored", "(I)Z"⟩, 12), (⟨"VersionDepotModel", "objects", "()I"⟩, 12), (⟨"VersionDepotModel", "folders", "()I"⟩, 12), (⟨"VersionDepotModel", "alike", "(II)Z"⟩, 12), (⟨"VersionDepotModel", "roots", "()I"⟩, 12), (⟨"VersionDepotModel", "changed", "()I"⟩, 12)]
theorem lw_r2 : ∀ q ∈ lw_privs_2, lw_okq q := List.forall_mem_cons.mpr ⟨lw_p16, List.forall_mem_cons.mpr ⟨lw_p17, List.forall_mem_cons.mpr ⟨lw_p18, List.forall_mem_cons.mpr ⟨lw_p19, List.forall_mem_cons.mpr ⟨lw_p20, List.forall_mem_cons.mpr ⟨lw_p21, List.forall_mem_cons.mpr ⟨lw_p22, List.forall_mem_cons.mpr ⟨lw_p23, fun _ h => absurd h List.not_mem_nil⟩⟩⟩⟩⟩⟩⟩⟩
def lw_privs : List (MethodName × Nat) := lw_privs_1 ++ (lw_privs_2)
def lw_tbl : List Cond := k2_sels lw_privs ++ tables_1
theorem lw_privs_ok : ∀ q ∈ lw_privs, lw_okq q := by
  show ∀ q ∈ lw_privs_1 ++ (lw_privs_2), lw_okq q
  exact List.forall_mem_append.mpr ⟨lw_r1, lw_r2⟩

def vd_tbl : List Cond := lw_tbl.filter goodWord
theorem vd_mt {w : Cond} (h : w ∈ lw_tbl) (g : goodWord w = true) : w ∈ vd_tbl := List.mem_filter.mpr ⟨h, g⟩
theorem vd_mts {ws : List Cond} (h : ∀ w ∈ ws, w ∈ lw_tbl) (g : ws.all goodWord = true) : ∀ w ∈ ws, w ∈ vd_tbl := fun w hw => vd_mt (h w hw) (List.all_eq_true.mp g w hw)
def R_B : String := "VersionDepot$Blobs"
def T_B : u_T := fun k => match k with
  | _ => ("VersionDepot$Blobs", "bits", "[J", true)
def ty_B : Nat → FieldType := fun k => match k with
  | _ => .array .long
theorem nm_B : ∀ a, a < 1 → ∀ b, b < 1 → a ≠ b → (T_B a).2.1 ≠ (T_B b).2.1 := by decide +kernel
theorem tyok_B : ∀ k, k < 1 → parseFieldDescriptor (T_B k).2.2.1 = some (ty_B k) := by decide +kernel
theorem in_B : ∀ w ∈ u_ws R_B T_B 1, w ∈ vd_tbl := vd_mts (by decide +kernel) (by decide +kernel)
def R_W : String := "VersionDepot$Rows"
def T_W : u_T := fun k => match k with
  | 0 => ("VersionDepot$Rows", "numbers", "[I", true)
  | 1 => ("VersionDepot$Rows", "stored", "[Z", true)
  | _ => ("VersionDepot$Rows", "last", "I", false)
def ty_W : Nat → FieldType := fun k => match k with
  | 0 => .array .int
  | 1 => .array .boolean
  | _ => .int
theorem nm_W : ∀ a, a < 3 → ∀ b, b < 3 → a ≠ b → (T_W a).2.1 ≠ (T_W b).2.1 := by decide +kernel
theorem tyok_W : ∀ k, k < 3 → parseFieldDescriptor (T_W k).2.2.1 = some (ty_W k) := by decide +kernel
theorem in_W : ∀ w ∈ u_ws R_W T_W 3, w ∈ vd_tbl := vd_mts (by decide +kernel) (by decide +kernel)
def R_S : String := "VersionDepot$Store"
def T_S : u_T := fun k => match k with
  | 0 => ("VersionDepot$Store", "blobs", "LVersionDepot$Blobs;", true)
  | 1 => ("VersionDepot$Store", "folders", "LVersionDepot$Rows;", true)
  | 2 => ("VersionDepot$Store", "roots", "LVersionDepot$Rows;", true)
  | 3 => ("VersionDepot$Store", "rootOf", "[I", true)
  | 4 => ("VersionDepot$Store", "firstParents", "[I", true)
  | 5 => ("VersionDepot$Store", "secondParents", "[I", true)
  | 6 => ("VersionDepot$Store", "ancestors", "[I", true)
  | 7 => ("VersionDepot$Store", "folderRow", "[I", true)
  | 8 => ("VersionDepot$Store", "made", "I", false)
  | _ => ("VersionDepot$Store", "stored", "I", false)
def ty_S : Nat → FieldType := fun k => match k with
  | 0 => .object "VersionDepot$Blobs"
  | 1 => .object "VersionDepot$Rows"
  | 2 => .object "VersionDepot$Rows"
  | 3 => .array .int
  | 4 => .array .int
  | 5 => .array .int
  | 6 => .array .int
  | 7 => .array .int
  | 8 => .int
  | _ => .int
theorem nm_S : ∀ a, a < 10 → ∀ b, b < 10 → a ≠ b → (T_S a).2.1 ≠ (T_S b).2.1 := by decide +kernel
theorem tyok_S : ∀ k, k < 10 → parseFieldDescriptor (T_S k).2.2.1 = some (ty_S k) := by decide +kernel
theorem in_S : ∀ w ∈ u_ws R_S T_S 10, w ∈ vd_tbl := vd_mts (by decide +kernel) (by decide +kernel)
def R_D : String := "VersionDepot"
def T_D : u_T := fun k => match k with
  | 0 => ("VersionDepot", "store", "LVersionDepot$Store;", true)
  | 1 => ("VersionDepot", "work", "[I", true)
  | 2 => ("VersionDepot", "index", "[I", true)
  | 3 => ("VersionDepot", "mixture", "[I", true)
  | 4 => ("VersionDepot", "tips", "[I", true)
  | 5 => ("VersionDepot", "head", "I", false)
  | 6 => ("VersionDepot", "merging", "I", false)
  | _ => ("VersionDepot", "clashes", "I", false)
def ty_D : Nat → FieldType := fun k => match k with
  | 0 => .object "VersionDepot$Store"
  | 1 => .array .int
  | 2 => .array .int
  | 3 => .array .int
  | 4 => .array .int
  | 5 => .int
  | 6 => .int
  | _ => .int
theorem nm_D : ∀ a, a < 8 → ∀ b, b < 8 → a ≠ b → (T_D a).2.1 ≠ (T_D b).2.1 := by decide +kernel
theorem tyok_D : ∀ k, k < 8 → parseFieldDescriptor (T_D k).2.2.1 = some (ty_D k) := by decide +kernel
theorem in_D : ∀ w ∈ u_ws R_D T_D 8, w ∈ vd_tbl := vd_mts (by decide +kernel) (by decide +kernel)
def R_M : String := "VersionDepotModel"
def T_M : u_T := fun k => match k with
  | 0 => ("VersionDepotModel", "content", "[I", true)
  | 1 => ("VersionDepotModel", "stored", "[Z", true)
  | 2 => ("VersionDepotModel", "first", "[I", true)
  | 3 => ("VersionDepotModel", "second", "[I", true)
  | 4 => ("VersionDepotModel", "made", "I", false)
  | 5 => ("VersionDepotModel", "branch", "[I", true)
  | 6 => ("VersionDepotModel", "head", "I", false)
  | 7 => ("VersionDepotModel", "merging", "I", false)
  | 8 => ("VersionDepotModel", "clashing", "[Z", true)
  | 9 => ("VersionDepotModel", "blob", "[Z", true)
  | 10 => ("VersionDepotModel", "marked", "[Z", true)
  | _ => ("VersionDepotModel", "other", "[Z", true)
def ty_M : Nat → FieldType := fun k => match k with
  | 0 => .array .int
  | 1 => .array .boolean
  | 2 => .array .int
  | 3 => .array .int
  | 4 => .int
  | 5 => .array .int
  | 6 => .int
  | 7 => .int
  | 8 => .array .boolean
  | 9 => .array .boolean
  | 10 => .array .boolean
  | _ => .array .boolean
theorem nm_M : ∀ a, a < 12 → ∀ b, b < 12 → a ≠ b → (T_M a).2.1 ≠ (T_M b).2.1 := by decide +kernel
theorem tyok_M : ∀ k, k < 12 → parseFieldDescriptor (T_M k).2.2.1 = some (ty_M k) := by decide +kernel
theorem in_M : ∀ w ∈ u_ws R_M T_M 12, w ∈ vd_tbl := vd_mts (by decide +kernel) (by decide +kernel)
abbrev vwCl : List vw_C := [(R_B, T_B, 1), (R_W, T_W, 3), (R_S, T_S, 10), (R_D, T_D, 8), (R_M, T_M, 12)]
end
section
def y_D_init : MethodName := ⟨"VersionDepot", "<init>", "()V"⟩
abbrev c_D_init : ByteArray := prog_1_method_1_code
set_option maxRecDepth 100000 in
theorem mo_D_init : (y_D_init.cls ≠ "java/lang/invoke/MethodHandle" ∧ y_D_init.cls ≠ "java/lang/invoke/VarHandle" ∧ (parseMethodDescriptor y_D_init.desc).map (fun d => d.parameters.length) = some 0 ∧ Cond.code y_D_init c_D_init 1 (none) ∈ vd_tbl ∧ Cond.initialized y_D_init.cls ∈ vd_tbl) := ⟨by decide +kernel, by decide +kernel, by decide +kernel, vd_mt (List.mem_of_getElem? (i := 37) rfl) rfl, vd_mt (List.mem_of_getElem? (i := 25) (by decide +kernel)) rfl⟩
theorem wi_D_init : Cond.instanceMethod y_D_init ∈ vd_tbl := vd_mt (List.mem_of_getElem? (i := 36) (by decide +kernel)) rfl
def y_S_init : MethodName := ⟨"VersionDepot$Store", "<init>", "()V"⟩
abbrev c_S_init : ByteArray := prog_4_method_1_code
set_option maxRecDepth 100000 in
theorem mo_S_init : (y_S_init.cls ≠ "java/lang/invoke/MethodHandle" ∧ y_S_init.cls ≠ "java/lang/invoke/VarHandle" ∧ (parseMethodDescriptor y_S_init.desc).map (fun d => d.parameters.length) = some 0 ∧ Cond.code y_S_init c_S_init 1 (none) ∈ vd_tbl ∧ Cond.initialized y_S_init.cls ∈ vd_tbl) := ⟨by decide +kernel, by decide +kernel, by decide +kernel, vd_mt (List.mem_of_getElem? (i := 45) rfl) rfl, vd_mt (List.mem_of_getElem? (i := 26) (by decide +kernel)) rfl⟩
theorem wi_S_init : Cond.instanceMethod y_S_init ∈ vd_tbl := vd_mt (List.mem_of_getElem? (i := 44) (by decide +kernel)) rfl
def y_B_init : MethodName := ⟨"VersionDepot$Blobs", "<init>", "()V"⟩
abbrev c_B_init : ByteArray := prog_2_method_1_code
set_option maxRecDepth 100000 in
theorem mo_B_init : (y_B_init.cls ≠ "java/lang/invoke/MethodHandle" ∧ y_B_init.cls ≠ "java/lang/invoke/VarHandle" ∧ (parseMethodDescriptor y_B_init.desc).map (fun d => d.parameters.length) = some 0 ∧ Cond.code y_B_init c_B_init 1 (none) ∈ vd_tbl ∧ Cond.initialized y_B_init.cls ∈ vd_tbl) := ⟨by decide +kernel, by decide +kernel, by decide +kernel, vd_mt (List.mem_of_getElem? (i := 51) rfl) rfl, vd_mt (List.mem_of_getElem? (i := 27) (by decide +kernel)) rfl⟩
theorem wi_B_init : Cond.instanceMethod y_B_init ∈ vd_tbl := vd_mt (List.mem_of_getElem? (i := 50) (by decide +kernel)) rfl
def y_W_init : MethodName := ⟨"VersionDepot$Rows", "<init>", "(I)V"⟩
abbrev c_W_init : ByteArray := prog_3_method_1_code
set_option maxRecDepth 100000 in
theorem mo_W_init : (y_W_init.cls ≠ "java/lang/invoke/MethodHandle" ∧ y_W_init.cls ≠ "java/lang/invoke/VarHandle" ∧ (parseMethodDescriptor y_W_init.desc).map (fun d => d.parameters.length) = some 1 ∧ Cond.code y_W_init c_W_init 2 (none) ∈ vd_tbl ∧ Cond.initialized y_W_init.cls ∈ vd_tbl) := ⟨by decide +kernel, by decide +kernel, by decide +kernel, vd_mt (List.mem_of_getElem? (i := 62) rfl) rfl, vd_mt (List.mem_of_getElem? (i := 28) (by decide +kernel)) rfl⟩
theorem wi_W_init : Cond.instanceMethod y_W_init ∈ vd_tbl := vd_mt (List.mem_of_getElem? (i := 61) (by decide +kernel)) rfl
def y_D_write : MethodName := ⟨"VersionDepot", "write", "(II)I"⟩
abbrev c_D_write : ByteArray := prog_1_method_2_code
set_option maxRecDepth 100000 in
theorem mo_D_write : (y_D_write.cls ≠ "java/lang/invoke/MethodHandle" ∧ y_D_write.cls ≠ "java/lang/invoke/VarHandle" ∧ (parseMethodDescriptor y_D_write.desc).map (fun d => d.parameters.length) = some 2 ∧ Cond.code y_D_write c_D_write 3 (some .int) ∈ vd_tbl ∧ Cond.initialized y_D_write.cls ∈ vd_tbl) := ⟨by decide +kernel, by decide +kernel, by decide +kernel, vd_mt (List.mem_of_getElem? (i := 139) rfl) rfl, vd_mt (List.mem_of_getElem? (i := 25) (by decide +kernel)) rfl⟩
theorem wi_D_write : Cond.instanceMethod y_D_write ∈ vd_tbl := vd_mt (List.mem_of_getElem? (i := 137) (by decide +kernel)) rfl
theorem ws_D_write : Cond.selects y_D_write.cls y_D_write y_D_write ∈ vd_tbl := vd_mt (List.mem_of_getElem? (i := 138) (by decide +kernel)) rfl
def y_D_isFile : MethodName := ⟨"VersionDepot", "isFile", "(I)Z"⟩
abbrev c_D_isFile : ByteArray := prog_1_method_21_code
set_option maxRecDepth 100000 in
theorem mo_D_isFile : (y_D_isFile.cls ≠ "java/lang/invoke/MethodHandle" ∧ y_D_isFile.cls ≠ "java/lang/invoke/VarHandle" ∧ (parseMethodDescriptor y_D_isFile.desc).map (fun d => d.parameters.length) = some 1 ∧ Cond.code y_D_isFile c_D_isFile 1 (some .boolean) ∈ vd_tbl ∧ Cond.initialized y_D_isFile.cls ∈ vd_tbl) := ⟨by decide +kernel, by decide +kernel, by decide +kernel, vd_mt (List.mem_of_getElem? (i := 142) rfl) rfl, vd_mt (List.mem_of_getElem? (i := 25) (by decide +kernel)) rfl⟩
theorem wt_D_isFile : Cond.static y_D_isFile ∈ vd_tbl := vd_mt (List.mem_of_getElem? (i := 141) (by decide +kernel)) rfl
def y_D_stage : MethodName := ⟨"VersionDepot", "stage", "(I)I"⟩
abbrev c_D_stage : ByteArray := prog_1_method_3_code
set_option maxRecDepth 100000 in
theorem mo_D_stage : (y_D_stage.cls ≠ "java/lang/invoke/MethodHandle" ∧ y_D_stage.cls ≠ "java/lang/invoke/VarHandle" ∧ (parseMethodDescriptor y_D_stage.desc).map (fun d => d.parameters.length) = some 1 ∧ Cond.code y_D_stage c_D_stage 2 (some .int) ∈ vd_tbl ∧ Cond.initialized y_D_stage.cls ∈ vd_tbl) := ⟨by decide +kernel, by decide +kernel, by decide +kernel, vd_mt (List.mem_of_getElem? (i := 146) rfl) rfl, vd_mt (List.mem_of_getElem? (i := 25) (by decide +kernel)) rfl⟩
theorem wi_D_stage : Cond.instanceMethod y_D_stage ∈ vd_tbl := vd_mt (List.mem_of_getElem? (i := 144) (by decide +kernel)) rfl
theorem ws_D_stage : Cond.selects y_D_stage.cls y_D_stage y_D_stage ∈ vd_tbl := vd_mt (List.mem_of_getElem? (i := 145) (by decide +kernel)) rfl
def y_B_keep : MethodName := ⟨"VersionDepot$Blobs", "keep", "(I)V"⟩
abbrev c_B_keep : ByteArray := prog_2_method_2_code
set_option maxRecDepth 100000 in
theorem mo_B_keep : (y_B_keep.cls ≠ "java/lang/invoke/MethodHandle" ∧ y_B_keep.cls ≠ "java/lang/invoke/VarHandle" ∧ (parseMethodDescriptor y_B_keep.desc).map (fun d => d.parameters.length) = some 1 ∧ Cond.code y_B_keep c_B_keep 2 (none) ∈ vd_tbl ∧ Cond.initialized y_B_keep.cls ∈ vd_tbl) := ⟨by decide +kernel, by decide +kernel, by decide +kernel, vd_mt (List.mem_of_getElem? (i := 150) rfl) rfl, vd_mt (List.mem_of_getElem? (i := 27) (by decide +kernel)) rfl⟩
theorem wi_B_keep : Cond.instanceMethod y_B_keep ∈ vd_tbl := vd_mt (List.mem_of_getElem? (i := 148) (by decide +kernel)) rfl
theorem ws_B_keep : Cond.selects y_B_keep.cls y_B_keep y_B_keep ∈ vd_tbl := vd_mt (List.mem_of_getElem? (i := 149) (by decide +kernel)) rfl
def y_D_commit : MethodName := ⟨"VersionDepot", "commit", "()I"⟩
abbrev c_D_commit : ByteArray := prog_1_method_4_code
set_option maxRecDepth 100000 in
theorem mo_D_commit : (y_D_commit.cls ≠ "java/lang/invoke/MethodHandle" ∧ y_D_commit.cls ≠ "java/lang/invoke/VarHandle" ∧ (parseMethodDescriptor y_D_commit.desc).map (fun d => d.parameters.length) = some 0 ∧ Cond.code y_D_commit c_D_commit 1 (some .int) ∈ vd_tbl ∧ Cond.initialized y_D_commit.cls ∈ vd_tbl) := ⟨by decide +kernel, by decide +kernel, by decide +kernel, vd_mt (List.mem_of_getElem? (i := 154) rfl) rfl, vd_mt (List.mem_of_getElem? (i := 25) (by decide +kernel)) rfl⟩
theorem wi_D_commit : Cond.instanceMethod y_D_commit ∈ vd_tbl := vd_mt (List.mem_of_getElem? (i := 152) (by decide +kernel)) rfl
theorem ws_D_commit : Cond.selects y_D_commit.cls y_D_commit y_D_commit ∈ vd_tbl := vd_mt (List.mem_of_getElem? (i := 153) (by decide +kernel)) rfl
def y_D_isAsHere : MethodName := ⟨"VersionDepot", "isAsHere", "([I)Z"⟩
abbrev c_D_isAsHere : ByteArray := prog_1_method_27_code
set_option maxRecDepth 100000 in
theorem mo_D_isAsHere : (y_D_isAsHere.cls ≠ "java/lang/invoke/MethodHandle" ∧ y_D_isAsHere.cls ≠ "java/lang/invoke/VarHandle" ∧ (parseMethodDescriptor y_D_isAsHere.desc).map (fun d => d.parameters.length) = some 1 ∧ Cond.code y_D_isAsHere c_D_isAsHere 3 (some .boolean) ∈ vd_tbl ∧ Cond.initialized y_D_isAsHere.cls ∈ vd_tbl) := ⟨by decide +kernel, by decide +kernel, by decide +kernel, vd_mt (List.mem_of_getElem? (i := 158) rfl) rfl, vd_mt (List.mem_of_getElem? (i := 25) (by decide +kernel)) rfl⟩
theorem wi_D_isAsHere : Cond.instanceMethod y_D_isAsHere ∈ vd_tbl := vd_mt (List.mem_of_getElem? (i := 157) (by decide +kernel)) rfl
theorem ws_D_isAsHere : Cond.selects y_D_isAsHere.cls y_D_isAsHere y_D_isAsHere ∈ vd_tbl := vd_mt (List.mem_of_getElem? (i := 0) (by decide +kernel)) rfl
def y_D_here : MethodName := ⟨"VersionDepot", "here", "()I"⟩
abbrev c_D_here : ByteArray := prog_1_method_24_code
set_option maxRecDepth 100000 in
theorem mo_D_here : (y_D_here.cls ≠ "java/lang/invoke/MethodHandle" ∧ y_D_here.cls ≠ "java/lang/invoke/VarHandle" ∧ (parseMethodDescriptor y_D_here.desc).map (fun d => d.parameters.length) = some 0 ∧ Cond.code y_D_here c_D_here 1 (some .int) ∈ vd_tbl ∧ Cond.initialized y_D_here.cls ∈ vd_tbl) := ⟨by decide +kernel, by decide +kernel, by decide +kernel, vd_mt (List.mem_of_getElem? (i := 162) rfl) rfl, vd_mt (List.mem_of_getElem? (i := 25) (by decide +kernel)) rfl⟩
theorem wi_D_here : Cond.instanceMethod y_D_here ∈ vd_tbl := vd_mt (List.mem_of_getElem? (i := 161) (by decide +kernel)) rfl
theorem ws_D_here : Cond.selects y_D_here.cls y_D_here y_D_here ∈ vd_tbl := vd_mt (List.mem_of_getElem? (i := 1) (by decide +kernel)) rfl
def y_S_contentOf : MethodName := ⟨"VersionDepot$Store", "contentOf", "(II)I"⟩
abbrev c_S_contentOf : ByteArray := prog_4_method_6_code
set_option maxRecDepth 100000 in
theorem mo_S_contentOf : (y_S_contentOf.cls ≠ "java/lang/invoke/MethodHandle" ∧ y_S_contentOf.cls ≠ "java/lang/invoke/VarHandle" ∧ (parseMethodDescriptor y_S_contentOf.desc).map (fun d => d.parameters.length) = some 2 ∧ Cond.code y_S_contentOf c_S_contentOf 3 (some .int) ∈ vd_tbl ∧ Cond.initialized y_S_contentOf.cls ∈ vd_tbl) := ⟨by decide +kernel, by decide +kernel, by decide +kernel, vd_mt (List.mem_of_getElem? (i := 166) rfl) rfl, vd_mt (List.mem_of_getElem? (i := 26) (by decide +kernel)) rfl⟩
theorem wi_S_contentOf : Cond.instanceMethod y_S_contentOf ∈ vd_tbl := vd_mt (List.mem_of_getElem? (i := 164) (by decide +kernel)) rfl
theorem ws_S_contentOf : Cond.selects y_S_contentOf.cls y_S_contentOf y_S_contentOf ∈ vd_tbl := vd_mt (List.mem_of_getElem? (i := 165) (by decide +kernel)) rfl
def y_W_get : MethodName := ⟨"VersionDepot$Rows", "get", "(II)I"⟩
abbrev c_W_get : ByteArray := prog_3_method_2_code
set_option maxRecDepth 100000 in
theorem mo_W_get : (y_W_get.cls ≠ "java/lang/invoke/MethodHandle" ∧ y_W_get.cls ≠ "java/lang/invoke/VarHandle" ∧ (parseMethodDescriptor y_W_get.desc).map (fun d => d.parameters.length) = some 2 ∧ Cond.code y_W_get c_W_get 3 (some .int) ∈ vd_tbl ∧ Cond.initialized y_W_get.cls ∈ vd_tbl) := ⟨by decide +kernel, by decide +kernel, by decide +kernel, vd_mt (List.mem_of_getElem? (i := 170) rfl) rfl, vd_mt (List.mem_of_getElem? (i := 28) (by decide +kernel)) rfl⟩
theorem wi_W_get : Cond.instanceMethod y_W_get ∈ vd_tbl := vd_mt (List.mem_of_getElem? (i := 168) (by decide +kernel)) rfl
theorem ws_W_get : Cond.selects y_W_get.cls y_W_get y_W_get ∈ vd_tbl := vd_mt (List.mem_of_getElem? (i := 169) (by decide +kernel)) rfl
def y_S_isFull : MethodName := ⟨"VersionDepot$Store", "isFull", "()Z"⟩
abbrev c_S_isFull : ByteArray := prog_4_method_2_code
set_option maxRecDepth 100000 in
theorem mo_S_isFull : (y_S_isFull.cls ≠ "java/lang/invoke/MethodHandle" ∧ y_S_isFull.cls ≠ "java/lang/invoke/VarHandle" ∧ (parseMethodDescriptor y_S_isFull.desc).map (fun d => d.parameters.length) = some 0 ∧ Cond.code y_S_isFull c_S_isFull 1 (some .boolean) ∈ vd_tbl ∧ Cond.initialized y_S_isFull.cls ∈ vd_tbl) := ⟨by decide +kernel, by decide +kernel, by decide +kernel, vd_mt (List.mem_of_getElem? (i := 174) rfl) rfl, vd_mt (List.mem_of_getElem? (i := 26) (by decide +kernel)) rfl⟩
theorem wi_S_isFull : Cond.instanceMethod y_S_isFull ∈ vd_tbl := vd_mt (List.mem_of_getElem? (i := 172) (by decide +kernel)) rfl
theorem ws_S_isFull : Cond.selects y_S_isFull.cls y_S_isFull y_S_isFull ∈ vd_tbl := vd_mt (List.mem_of_getElem? (i := 173) (by decide +kernel)) rfl
def y_S_make : MethodName := ⟨"VersionDepot$Store", "make", "([III)I"⟩
abbrev c_S_make : ByteArray := prog_4_method_11_code
set_option maxRecDepth 100000 in
theorem mo_S_make : (y_S_make.cls ≠ "java/lang/invoke/MethodHandle" ∧ y_S_make.cls ≠ "java/lang/invoke/VarHandle" ∧ (parseMethodDescriptor y_S_make.desc).map (fun d => d.parameters.length) = some 3 ∧ Cond.code y_S_make c_S_make 4 (some .int) ∈ vd_tbl ∧ Cond.initialized y_S_make.cls ∈ vd_tbl) := ⟨by decide +kernel, by decide +kernel, by decide +kernel, vd_mt (List.mem_of_getElem? (i := 178) rfl) rfl, vd_mt (List.mem_of_getElem? (i := 26) (by decide +kernel)) rfl⟩
theorem wi_S_make : Cond.instanceMethod y_S_make ∈ vd_tbl := vd_mt (List.mem_of_getElem? (i := 176) (by decide +kernel)) rfl
theorem ws_S_make : Cond.selects y_S_make.cls y_S_make y_S_make ∈ vd_tbl := vd_mt (List.mem_of_getElem? (i := 177) (by decide +kernel)) rfl
def y_S_keepRoot : MethodName := ⟨"VersionDepot$Store", "keepRoot", "([I)I"⟩
abbrev c_S_keepRoot : ByteArray := prog_4_method_12_code
set_option maxRecDepth 100000 in
theorem mo_S_keepRoot : (y_S_keepRoot.cls ≠ "java/lang/invoke/MethodHandle" ∧ y_S_keepRoot.cls ≠ "java/lang/invoke/VarHandle" ∧ (parseMethodDescriptor y_S_keepRoot.desc).map (fun d => d.parameters.length) = some 1 ∧ Cond.code y_S_keepRoot c_S_keepRoot 3 (some .int) ∈ vd_tbl ∧ Cond.initialized y_S_keepRoot.cls ∈ vd_tbl) := ⟨by decide +kernel, by decide +kernel, by decide +kernel, vd_mt (List.mem_of_getElem? (i := 182) rfl) rfl, vd_mt (List.mem_of_getElem? (i := 26) (by decide +kernel)) rfl⟩
theorem wi_S_keepRoot : Cond.instanceMethod y_S_keepRoot ∈ vd_tbl := vd_mt (List.mem_of_getElem? (i := 180) (by decide +kernel)) rfl
theorem ws_S_keepRoot : Cond.selects y_S_keepRoot.cls y_S_keepRoot y_S_keepRoot ∈ vd_tbl := vd_mt (List.mem_of_getElem? (i := 181) (by decide +kernel)) rfl
def y_S_keepFolder : MethodName := ⟨"VersionDepot$Store", "keepFolder", "([II)I"⟩
abbrev c_S_keepFolder : ByteArray := prog_4_method_13_code
set_option maxRecDepth 100000 in
theorem mo_S_keepFolder : (y_S_keepFolder.cls ≠ "java/lang/invoke/MethodHandle" ∧ y_S_keepFolder.cls ≠ "java/lang/invoke/VarHandle" ∧ (parseMethodDescriptor y_S_keepFolder.desc).map (fun d => d.parameters.length) = some 2 ∧ Cond.code y_S_keepFolder c_S_keepFolder 5 (some .int) ∈ vd_tbl ∧ Cond.initialized y_S_keepFolder.cls ∈ vd_tbl) := ⟨by decide +kernel, by decide +kernel, by decide +kernel, vd_mt (List.mem_of_getElem? (i := 186) rfl) rfl, vd_mt (List.mem_of_getElem? (i := 26) (by decide +kernel)) rfl⟩
theorem wi_S_keepFolder : Cond.instanceMethod y_S_keepFolder ∈ vd_tbl := vd_mt (List.mem_of_getElem? (i := 184) (by decide +kernel)) rfl
theorem ws_S_keepFolder : Cond.selects y_S_keepFolder.cls y_S_keepFolder y_S_keepFolder ∈ vd_tbl := vd_mt (List.mem_of_getElem? (i := 185) (by decide +kernel)) rfl
def y_W_keep : MethodName := ⟨"VersionDepot$Rows", "keep", "([II)I"⟩
abbrev c_W_keep : ByteArray := prog_3_method_3_code
set_option maxRecDepth 100000 in
theorem mo_W_keep : (y_W_keep.cls ≠ "java/lang/invoke/MethodHandle" ∧ y_W_keep.cls ≠ "java/lang/invoke/VarHandle" ∧ (parseMethodDescriptor y_W_keep.desc).map (fun d => d.parameters.length) = some 2 ∧ Cond.code y_W_keep c_W_keep 4 (some .int) ∈ vd_tbl ∧ Cond.initialized y_W_keep.cls ∈ vd_tbl) := ⟨by decide +kernel, by decide +kernel, by decide +kernel, vd_mt (List.mem_of_getElem? (i := 191) rfl) rfl, vd_mt (List.mem_of_getElem? (i := 28) (by decide +kernel)) rfl⟩
theorem wi_W_keep : Cond.instanceMethod y_W_keep ∈ vd_tbl := vd_mt (List.mem_of_getElem? (i := 189) (by decide +kernel)) rfl
theorem ws_W_keep : Cond.selects y_W_keep.cls y_W_keep y_W_keep ∈ vd_tbl := vd_mt (List.mem_of_getElem? (i := 190) (by decide +kernel)) rfl
def y_W_isAlike : MethodName := ⟨"VersionDepot$Rows", "isAlike", "(I[II)Z"⟩
abbrev c_W_isAlike : ByteArray := prog_3_method_4_code
set_option maxRecDepth 100000 in
theorem mo_W_isAlike : (y_W_isAlike.cls ≠ "java/lang/invoke/MethodHandle" ∧ y_W_isAlike.cls ≠ "java/lang/invoke/VarHandle" ∧ (parseMethodDescriptor y_W_isAlike.desc).map (fun d => d.parameters.length) = some 3 ∧ Cond.code y_W_isAlike c_W_isAlike 5 (some .boolean) ∈ vd_tbl ∧ Cond.initialized y_W_isAlike.cls ∈ vd_tbl) := ⟨by decide +kernel, by decide +kernel, by decide +kernel, vd_mt (List.mem_of_getElem? (i := 195) rfl) rfl, vd_mt (List.mem_of_getElem? (i := 28) (by decide +kernel)) rfl⟩
theorem wi_W_isAlike : Cond.instanceMethod y_W_isAlike ∈ vd_tbl := vd_mt (List.mem_of_getElem? (i := 193) (by decide +kernel)) rfl
theorem ws_W_isAlike : Cond.selects y_W_isAlike.cls y_W_isAlike y_W_isAlike ∈ vd_tbl := vd_mt (List.mem_of_getElem? (i := 194) (by decide +kernel)) rfl
def y_D_branch : MethodName := ⟨"VersionDepot", "branch", "(I)I"⟩
abbrev c_D_branch : ByteArray := prog_1_method_5_code
set_option maxRecDepth 100000 in
theorem mo_D_branch : (y_D_branch.cls ≠ "java/lang/invoke/MethodHandle" ∧ y_D_branch.cls ≠ "java/lang/invoke/VarHandle" ∧ (parseMethodDescriptor y_D_branch.desc).map (fun d => d.parameters.length) = some 1 ∧ Cond.code y_D_branch c_D_branch 2 (some .int) ∈ vd_tbl ∧ Cond.initialized y_D_branch.cls ∈ vd_tbl) := ⟨by decide +kernel, by decide +kernel, by decide +kernel, vd_mt (List.mem_of_getElem? (i := 202) rfl) rfl, vd_mt (List.mem_of_getElem? (i := 25) (by decide +kernel)) rfl⟩
theorem wi_D_branch : Cond.instanceMethod y_D_branch ∈ vd_tbl := vd_mt (List.mem_of_getElem? (i := 200) (by decide +kernel)) rfl
theorem ws_D_branch : Cond.selects y_D_branch.cls y_D_branch y_D_branch ∈ vd_tbl := vd_mt (List.mem_of_getElem? (i := 201) (by decide +kernel)) rfl
def y_D_isBranch : MethodName := ⟨"VersionDepot", "isBranch", "(I)Z"⟩
abbrev c_D_isBranch : ByteArray := prog_1_method_22_code
set_option maxRecDepth 100000 in
theorem mo_D_isBranch : (y_D_isBranch.cls ≠ "java/lang/invoke/MethodHandle" ∧ y_D_isBranch.cls ≠ "java/lang/invoke/VarHandle" ∧ (parseMethodDescriptor y_D_isBranch.desc).map (fun d => d.parameters.length) = some 1 ∧ Cond.code y_D_isBranch c_D_isBranch 1 (some .boolean) ∈ vd_tbl ∧ Cond.initialized y_D_isBranch.cls ∈ vd_tbl) := ⟨by decide +kernel, by decide +kernel, by decide +kernel, vd_mt (List.mem_of_getElem? (i := 205) rfl) rfl, vd_mt (List.mem_of_getElem? (i := 25) (by decide +kernel)) rfl⟩
theorem wt_D_isBranch : Cond.static y_D_isBranch ∈ vd_tbl := vd_mt (List.mem_of_getElem? (i := 204) (by decide +kernel)) rfl
def y_D_turn : MethodName := ⟨"VersionDepot", "turn", "(I)I"⟩
abbrev c_D_turn : ByteArray := prog_1_method_6_code
set_option maxRecDepth 100000 in
theorem mo_D_turn : (y_D_turn.cls ≠ "java/lang/invoke/MethodHandle" ∧ y_D_turn.cls ≠ "java/lang/invoke/VarHandle" ∧ (parseMethodDescriptor y_D_turn.desc).map (fun d => d.parameters.length) = some 1 ∧ Cond.code y_D_turn c_D_turn 2 (some .int) ∈ vd_tbl ∧ Cond.initialized y_D_turn.cls ∈ vd_tbl) := ⟨by decide +kernel, by decide +kernel, by decide +kernel, vd_mt (List.mem_of_getElem? (i := 209) rfl) rfl, vd_mt (List.mem_of_getElem? (i := 25) (by decide +kernel)) rfl⟩
theorem wi_D_turn : Cond.instanceMethod y_D_turn ∈ vd_tbl := vd_mt (List.mem_of_getElem? (i := 207) (by decide +kernel)) rfl
theorem ws_D_turn : Cond.selects y_D_turn.cls y_D_turn y_D_turn ∈ vd_tbl := vd_mt (List.mem_of_getElem? (i := 208) (by decide +kernel)) rfl
def y_D_isThere : MethodName := ⟨"VersionDepot", "isThere", "(I)Z"⟩
abbrev c_D_isThere : ByteArray := prog_1_method_23_code
set_option maxRecDepth 100000 in
theorem mo_D_isThere : (y_D_isThere.cls ≠ "java/lang/invoke/MethodHandle" ∧ y_D_isThere.cls ≠ "java/lang/invoke/VarHandle" ∧ (parseMethodDescriptor y_D_isThere.desc).map (fun d => d.parameters.length) = some 1 ∧ Cond.code y_D_isThere c_D_isThere 2 (some .boolean) ∈ vd_tbl ∧ Cond.initialized y_D_isThere.cls ∈ vd_tbl) := ⟨by decide +kernel, by decide +kernel, by decide +kernel, vd_mt (List.mem_of_getElem? (i := 213) rfl) rfl, vd_mt (List.mem_of_getElem? (i := 25) (by decide +kernel)) rfl⟩
theorem wi_D_isThere : Cond.instanceMethod y_D_isThere ∈ vd_tbl := vd_mt (List.mem_of_getElem? (i := 212) (by decide +kernel)) rfl
theorem ws_D_isThere : Cond.selects y_D_isThere.cls y_D_isThere y_D_isThere ∈ vd_tbl := vd_mt (List.mem_of_getElem? (i := 2) (by decide +kernel)) rfl
def y_D_isTidy : MethodName := ⟨"VersionDepot", "isTidy", "()Z"⟩
abbrev c_D_isTidy : ByteArray := prog_1_method_25_code
set_option maxRecDepth 100000 in
theorem mo_D_isTidy : (y_D_isTidy.cls ≠ "java/lang/invoke/MethodHandle" ∧ y_D_isTidy.cls ≠ "java/lang/invoke/VarHandle" ∧ (parseMethodDescriptor y_D_isTidy.desc).map (fun d => d.parameters.length) = some 0 ∧ Cond.code y_D_isTidy c_D_isTidy 1 (some .boolean) ∈ vd_tbl ∧ Cond.initialized y_D_isTidy.cls ∈ vd_tbl) := ⟨by decide +kernel, by decide +kernel, by decide +kernel, vd_mt (List.mem_of_getElem? (i := 217) rfl) rfl, vd_mt (List.mem_of_getElem? (i := 25) (by decide +kernel)) rfl⟩
theorem wi_D_isTidy : Cond.instanceMethod y_D_isTidy ∈ vd_tbl := vd_mt (List.mem_of_getElem? (i := 216) (by decide +kernel)) rfl
theorem ws_D_isTidy : Cond.selects y_D_isTidy.cls y_D_isTidy y_D_isTidy ∈ vd_tbl := vd_mt (List.mem_of_getElem? (i := 3) (by decide +kernel)) rfl
def y_D_unstaged : MethodName := ⟨"VersionDepot", "unstaged", "()I"⟩
abbrev c_D_unstaged : ByteArray := prog_1_method_26_code
set_option maxRecDepth 100000 in
theorem mo_D_unstaged : (y_D_unstaged.cls ≠ "java/lang/invoke/MethodHandle" ∧ y_D_unstaged.cls ≠ "java/lang/invoke/VarHandle" ∧ (parseMethodDescriptor y_D_unstaged.desc).map (fun d => d.parameters.length) = some 0 ∧ Cond.code y_D_unstaged c_D_unstaged 3 (some .int) ∈ vd_tbl ∧ Cond.initialized y_D_unstaged.cls ∈ vd_tbl) := ⟨by decide +kernel, by decide +kernel, by decide +kernel, vd_mt (List.mem_of_getElem? (i := 221) rfl) rfl, vd_mt (List.mem_of_getElem? (i := 25) (by decide +kernel)) rfl⟩
theorem wi_D_unstaged : Cond.instanceMethod y_D_unstaged ∈ vd_tbl := vd_mt (List.mem_of_getElem? (i := 220) (by decide +kernel)) rfl
theorem ws_D_unstaged : Cond.selects y_D_unstaged.cls y_D_unstaged y_D_unstaged ∈ vd_tbl := vd_mt (List.mem_of_getElem? (i := 4) (by decide +kernel)) rfl
def y_D_moveTo : MethodName := ⟨"VersionDepot", "moveTo", "(I)I"⟩
abbrev c_D_moveTo : ByteArray := prog_1_method_28_code
set_option maxRecDepth 100000 in
theorem mo_D_moveTo : (y_D_moveTo.cls ≠ "java/lang/invoke/MethodHandle" ∧ y_D_moveTo.cls ≠ "java/lang/invoke/VarHandle" ∧ (parseMethodDescriptor y_D_moveTo.desc).map (fun d => d.parameters.length) = some 1 ∧ Cond.code y_D_moveTo c_D_moveTo 3 (some .int) ∈ vd_tbl ∧ Cond.initialized y_D_moveTo.cls ∈ vd_tbl) := ⟨by decide +kernel, by decide +kernel, by decide +kernel, vd_mt (List.mem_of_getElem? (i := 225) rfl) rfl, vd_mt (List.mem_of_getElem? (i := 25) (by decide +kernel)) rfl⟩
theorem wi_D_moveTo : Cond.instanceMethod y_D_moveTo ∈ vd_tbl := vd_mt (List.mem_of_getElem? (i := 224) (by decide +kernel)) rfl
theorem ws_D_moveTo : Cond.selects y_D_moveTo.cls y_D_moveTo y_D_moveTo ∈ vd_tbl := vd_mt (List.mem_of_getElem? (i := 5) (by decide +kernel)) rfl
def y_D_merge : MethodName := ⟨"VersionDepot", "merge", "(I)I"⟩
abbrev c_D_merge : ByteArray := prog_1_method_7_code
set_option maxRecDepth 100000 in
theorem mo_D_merge : (y_D_merge.cls ≠ "java/lang/invoke/MethodHandle" ∧ y_D_merge.cls ≠ "java/lang/invoke/VarHandle" ∧ (parseMethodDescriptor y_D_merge.desc).map (fun d => d.parameters.length) = some 1 ∧ Cond.code y_D_merge c_D_merge 3 (some .int) ∈ vd_tbl ∧ Cond.initialized y_D_merge.cls ∈ vd_tbl) := ⟨by decide +kernel, by decide +kernel, by decide +kernel, vd_mt (List.mem_of_getElem? (i := 229) rfl) rfl, vd_mt (List.mem_of_getElem? (i := 25) (by decide +kernel)) rfl⟩
theorem wi_D_merge : Cond.instanceMethod y_D_merge ∈ vd_tbl := vd_mt (List.mem_of_getElem? (i := 227) (by decide +kernel)) rfl
theorem ws_D_merge : Cond.selects y_D_merge.cls y_D_merge y_D_merge ∈ vd_tbl := vd_mt (List.mem_of_getElem? (i := 228) (by decide +kernel)) rfl
def y_S_leadsTo : MethodName := ⟨"VersionDepot$Store", "leadsTo", "(II)Z"⟩
abbrev c_S_leadsTo : ByteArray := prog_4_method_9_code
set_option maxRecDepth 100000 in
theorem mo_S_leadsTo : (y_S_leadsTo.cls ≠ "java/lang/invoke/MethodHandle" ∧ y_S_leadsTo.cls ≠ "java/lang/invoke/VarHandle" ∧ (parseMethodDescriptor y_S_leadsTo.desc).map (fun d => d.parameters.length) = some 2 ∧ Cond.code y_S_leadsTo c_S_leadsTo 3 (some .boolean) ∈ vd_tbl ∧ Cond.initialized y_S_leadsTo.cls ∈ vd_tbl) := ⟨by decide +kernel, by decide +kernel, by decide +kernel, vd_mt (List.mem_of_getElem? (i := 233) rfl) rfl, vd_mt (List.mem_of_getElem? (i := 26) (by decide +kernel)) rfl⟩
theorem wi_S_leadsTo : Cond.instanceMethod y_S_leadsTo ∈ vd_tbl := vd_mt (List.mem_of_getElem? (i := 231) (by decide +kernel)) rfl
theorem ws_S_leadsTo : Cond.selects y_S_leadsTo.cls y_S_leadsTo y_S_leadsTo ∈ vd_tbl := vd_mt (List.mem_of_getElem? (i := 232) (by decide +kernel)) rfl
def y_D_mergeApart : MethodName := ⟨"VersionDepot", "mergeApart", "(I)I"⟩
abbrev c_D_mergeApart : ByteArray := prog_1_method_29_code
set_option maxRecDepth 100000 in
theorem mo_D_mergeApart : (y_D_mergeApart.cls ≠ "java/lang/invoke/MethodHandle" ∧ y_D_mergeApart.cls ≠ "java/lang/invoke/VarHandle" ∧ (parseMethodDescriptor y_D_mergeApart.desc).map (fun d => d.parameters.length) = some 1 ∧ Cond.code y_D_mergeApart c_D_mergeApart 3 (some .int) ∈ vd_tbl ∧ Cond.initialized y_D_mergeApart.cls ∈ vd_tbl) := ⟨by decide +kernel, by decide +kernel, by decide +kernel, vd_mt (List.mem_of_getElem? (i := 237) rfl) rfl, vd_mt (List.mem_of_getElem? (i := 25) (by decide +kernel)) rfl⟩
theorem wi_D_mergeApart : Cond.instanceMethod y_D_mergeApart ∈ vd_tbl := vd_mt (List.mem_of_getElem? (i := 236) (by decide +kernel)) rfl
theorem ws_D_mergeApart : Cond.selects y_D_mergeApart.cls y_D_mergeApart y_D_mergeApart ∈ vd_tbl := vd_mt (List.mem_of_getElem? (i := 6) (by decide +kernel)) rfl
def y_S_meetingOf : MethodName := ⟨"VersionDepot$Store", "meetingOf", "(II)I"⟩
abbrev c_S_meetingOf : ByteArray := prog_4_method_10_code
set_option maxRecDepth 100000 in
theorem mo_S_meetingOf : (y_S_meetingOf.cls ≠ "java/lang/invoke/MethodHandle" ∧ y_S_meetingOf.cls ≠ "java/lang/invoke/VarHandle" ∧ (parseMethodDescriptor y_S_meetingOf.desc).map (fun d => d.parameters.length) = some 2 ∧ Cond.code y_S_meetingOf c_S_meetingOf 5 (some .int) ∈ vd_tbl ∧ Cond.initialized y_S_meetingOf.cls ∈ vd_tbl) := ⟨by decide +kernel, by decide +kernel, by decide +kernel, vd_mt (List.mem_of_getElem? (i := 241) rfl) rfl, vd_mt (List.mem_of_getElem? (i := 26) (by decide +kernel)) rfl⟩
theorem wi_S_meetingOf : Cond.instanceMethod y_S_meetingOf ∈ vd_tbl := vd_mt (List.mem_of_getElem? (i := 239) (by decide +kernel)) rfl
theorem ws_S_meetingOf : Cond.selects y_S_meetingOf.cls y_S_meetingOf y_S_meetingOf ∈ vd_tbl := vd_mt (List.mem_of_getElem? (i := 240) (by decide +kernel)) rfl
def y_D_mixHereWith : MethodName := ⟨"VersionDepot", "mixHereWith", "(II)I"⟩
abbrev c_D_mixHereWith : ByteArray := prog_1_method_30_code
set_option maxRecDepth 100000 in
theorem mo_D_mixHereWith : (y_D_mixHereWith.cls ≠ "java/lang/invoke/MethodHandle" ∧ y_D_mixHereWith.cls ≠ "java/lang/invoke/VarHandle" ∧ (parseMethodDescriptor y_D_mixHereWith.desc).map (fun d => d.parameters.length) = some 2 ∧ Cond.code y_D_mixHereWith c_D_mixHereWith 8 (some .int) ∈ vd_tbl ∧ Cond.initialized y_D_mixHereWith.cls ∈ vd_tbl) := ⟨by decide +kernel, by decide +kernel, by decide +kernel, vd_mt (List.mem_of_getElem? (i := 245) rfl) rfl, vd_mt (List.mem_of_getElem? (i := 25) (by decide +kernel)) rfl⟩
theorem wi_D_mixHereWith : Cond.instanceMethod y_D_mixHereWith ∈ vd_tbl := vd_mt (List.mem_of_getElem? (i := 244) (by decide +kernel)) rfl
theorem ws_D_mixHereWith : Cond.selects y_D_mixHereWith.cls y_D_mixHereWith y_D_mixHereWith ∈ vd_tbl := vd_mt (List.mem_of_getElem? (i := 7) (by decide +kernel)) rfl
def y_D_abort : MethodName := ⟨"VersionDepot", "abort", "()I"⟩
abbrev c_D_abort : ByteArray := prog_1_method_8_code
set_option maxRecDepth 100000 in
theorem mo_D_abort : (y_D_abort.cls ≠ "java/lang/invoke/MethodHandle" ∧ y_D_abort.cls ≠ "java/lang/invoke/VarHandle" ∧ (parseMethodDescriptor y_D_abort.desc).map (fun d => d.parameters.length) = some 0 ∧ Cond.code y_D_abort c_D_abort 1 (some .int) ∈ vd_tbl ∧ Cond.initialized y_D_abort.cls ∈ vd_tbl) := ⟨by decide +kernel, by decide +kernel, by decide +kernel, vd_mt (List.mem_of_getElem? (i := 250) rfl) rfl, vd_mt (List.mem_of_getElem? (i := 25) (by decide +kernel)) rfl⟩
theorem wi_D_abort : Cond.instanceMethod y_D_abort ∈ vd_tbl := vd_mt (List.mem_of_getElem? (i := 248) (by decide +kernel)) rfl
theorem ws_D_abort : Cond.selects y_D_abort.cls y_D_abort y_D_abort ∈ vd_tbl := vd_mt (List.mem_of_getElem? (i := 249) (by decide +kernel)) rfl
def y_D_pick : MethodName := ⟨"VersionDepot", "pick", "(I)I"⟩
abbrev c_D_pick : ByteArray := prog_1_method_9_code
set_option maxRecDepth 100000 in
theorem mo_D_pick : (y_D_pick.cls ≠ "java/lang/invoke/MethodHandle" ∧ y_D_pick.cls ≠ "java/lang/invoke/VarHandle" ∧ (parseMethodDescriptor y_D_pick.desc).map (fun d => d.parameters.length) = some 1 ∧ Cond.code y_D_pick c_D_pick 2 (some .int) ∈ vd_tbl ∧ Cond.initialized y_D_pick.cls ∈ vd_tbl) := ⟨by decide +kernel, by decide +kernel, by decide +kernel, vd_mt (List.mem_of_getElem? (i := 254) rfl) rfl, vd_mt (List.mem_of_getElem? (i := 25) (by decide +kernel)) rfl⟩
theorem wi_D_pick : Cond.instanceMethod y_D_pick ∈ vd_tbl := vd_mt (List.mem_of_getElem? (i := 252) (by decide +kernel)) rfl
theorem ws_D_pick : Cond.selects y_D_pick.cls y_D_pick y_D_pick ∈ vd_tbl := vd_mt (List.mem_of_getElem? (i := 253) (by decide +kernel)) rfl
def y_S_holds : MethodName := ⟨"VersionDepot$Store", "holds", "(I)Z"⟩
abbrev c_S_holds : ByteArray := prog_4_method_3_code
set_option maxRecDepth 100000 in
theorem mo_S_holds : (y_S_holds.cls ≠ "java/lang/invoke/MethodHandle" ∧ y_S_holds.cls ≠ "java/lang/invoke/VarHandle" ∧ (parseMethodDescriptor y_S_holds.desc).map (fun d => d.parameters.length) = some 1 ∧ Cond.code y_S_holds c_S_holds 2 (some .boolean) ∈ vd_tbl ∧ Cond.initialized y_S_holds.cls ∈ vd_tbl) := ⟨by decide +kernel, by decide +kernel, by decide +kernel, vd_mt (List.mem_of_getElem? (i := 258) rfl) rfl, vd_mt (List.mem_of_getElem? (i := 26) (by decide +kernel)) rfl⟩
theorem wi_S_holds : Cond.instanceMethod y_S_holds ∈ vd_tbl := vd_mt (List.mem_of_getElem? (i := 256) (by decide +kernel)) rfl
theorem ws_S_holds : Cond.selects y_S_holds.cls y_S_holds y_S_holds ∈ vd_tbl := vd_mt (List.mem_of_getElem? (i := 257) (by decide +kernel)) rfl
def y_S_parentOf : MethodName := ⟨"VersionDepot$Store", "parentOf", "(II)I"⟩
abbrev c_S_parentOf : ByteArray := prog_4_method_7_code
set_option maxRecDepth 100000 in
theorem mo_S_parentOf : (y_S_parentOf.cls ≠ "java/lang/invoke/MethodHandle" ∧ y_S_parentOf.cls ≠ "java/lang/invoke/VarHandle" ∧ (parseMethodDescriptor y_S_parentOf.desc).map (fun d => d.parameters.length) = some 2 ∧ Cond.code y_S_parentOf c_S_parentOf 3 (some .int) ∈ vd_tbl ∧ Cond.initialized y_S_parentOf.cls ∈ vd_tbl) := ⟨by decide +kernel, by decide +kernel, by decide +kernel, vd_mt (List.mem_of_getElem? (i := 262) rfl) rfl, vd_mt (List.mem_of_getElem? (i := 26) (by decide +kernel)) rfl⟩
theorem wi_S_parentOf : Cond.instanceMethod y_S_parentOf ∈ vd_tbl := vd_mt (List.mem_of_getElem? (i := 260) (by decide +kernel)) rfl
theorem ws_S_parentOf : Cond.selects y_S_parentOf.cls y_S_parentOf y_S_parentOf ∈ vd_tbl := vd_mt (List.mem_of_getElem? (i := 261) (by decide +kernel)) rfl
def y_D_reset : MethodName := ⟨"VersionDepot", "reset", "(I)I"⟩
abbrev c_D_reset : ByteArray := prog_1_method_10_code
set_option maxRecDepth 100000 in
theorem mo_D_reset : (y_D_reset.cls ≠ "java/lang/invoke/MethodHandle" ∧ y_D_reset.cls ≠ "java/lang/invoke/VarHandle" ∧ (parseMethodDescriptor y_D_reset.desc).map (fun d => d.parameters.length) = some 1 ∧ Cond.code y_D_reset c_D_reset 2 (some .int) ∈ vd_tbl ∧ Cond.initialized y_D_reset.cls ∈ vd_tbl) := ⟨by decide +kernel, by decide +kernel, by decide +kernel, vd_mt (List.mem_of_getElem? (i := 266) rfl) rfl, vd_mt (List.mem_of_getElem? (i := 25) (by decide +kernel)) rfl⟩
theorem wi_D_reset : Cond.instanceMethod y_D_reset ∈ vd_tbl := vd_mt (List.mem_of_getElem? (i := 264) (by decide +kernel)) rfl
theorem ws_D_reset : Cond.selects y_D_reset.cls y_D_reset y_D_reset ∈ vd_tbl := vd_mt (List.mem_of_getElem? (i := 265) (by decide +kernel)) rfl
def y_D_remove : MethodName := ⟨"VersionDepot", "remove", "(I)I"⟩
abbrev c_D_remove : ByteArray := prog_1_method_11_code
set_option maxRecDepth 100000 in
theorem mo_D_remove : (y_D_remove.cls ≠ "java/lang/invoke/MethodHandle" ∧ y_D_remove.cls ≠ "java/lang/invoke/VarHandle" ∧ (parseMethodDescriptor y_D_remove.desc).map (fun d => d.parameters.length) = some 1 ∧ Cond.code y_D_remove c_D_remove 2 (some .int) ∈ vd_tbl ∧ Cond.initialized y_D_remove.cls ∈ vd_tbl) := ⟨by decide +kernel, by decide +kernel, by decide +kernel, vd_mt (List.mem_of_getElem? (i := 270) rfl) rfl, vd_mt (List.mem_of_getElem? (i := 25) (by decide +kernel)) rfl⟩
theorem wi_D_remove : Cond.instanceMethod y_D_remove ∈ vd_tbl := vd_mt (List.mem_of_getElem? (i := 268) (by decide +kernel)) rfl
theorem ws_D_remove : Cond.selects y_D_remove.cls y_D_remove y_D_remove ∈ vd_tbl := vd_mt (List.mem_of_getElem? (i := 269) (by decide +kernel)) rfl
def y_D_sweep : MethodName := ⟨"VersionDepot", "sweep", "()I"⟩
abbrev c_D_sweep : ByteArray := prog_1_method_12_code
set_option maxRecDepth 100000 in
theorem mo_D_sweep : (y_D_sweep.cls ≠ "java/lang/invoke/MethodHandle" ∧ y_D_sweep.cls ≠ "java/lang/invoke/VarHandle" ∧ (parseMethodDescriptor y_D_sweep.desc).map (fun d => d.parameters.length) = some 0 ∧ Cond.code y_D_sweep c_D_sweep 4 (some .int) ∈ vd_tbl ∧ Cond.initialized y_D_sweep.cls ∈ vd_tbl) := ⟨by decide +kernel, by decide +kernel, by decide +kernel, vd_mt (List.mem_of_getElem? (i := 274) rfl) rfl, vd_mt (List.mem_of_getElem? (i := 25) (by decide +kernel)) rfl⟩
theorem wi_D_sweep : Cond.instanceMethod y_D_sweep ∈ vd_tbl := vd_mt (List.mem_of_getElem? (i := 272) (by decide +kernel)) rfl
theorem ws_D_sweep : Cond.selects y_D_sweep.cls y_D_sweep y_D_sweep ∈ vd_tbl := vd_mt (List.mem_of_getElem? (i := 273) (by decide +kernel)) rfl
def y_S_size : MethodName := ⟨"VersionDepot$Store", "size", "()I"⟩
abbrev c_S_size : ByteArray := prog_4_method_5_code
set_option maxRecDepth 100000 in
theorem mo_S_size : (y_S_size.cls ≠ "java/lang/invoke/MethodHandle" ∧ y_S_size.cls ≠ "java/lang/invoke/VarHandle" ∧ (parseMethodDescriptor y_S_size.desc).map (fun d => d.parameters.length) = some 0 ∧ Cond.code y_S_size c_S_size 1 (some .int) ∈ vd_tbl ∧ Cond.initialized y_S_size.cls ∈ vd_tbl) := ⟨by decide +kernel, by decide +kernel, by decide +kernel, vd_mt (List.mem_of_getElem? (i := 278) rfl) rfl, vd_mt (List.mem_of_getElem? (i := 26) (by decide +kernel)) rfl⟩
theorem wi_S_size : Cond.instanceMethod y_S_size ∈ vd_tbl := vd_mt (List.mem_of_getElem? (i := 276) (by decide +kernel)) rfl
theorem ws_S_size : Cond.selects y_S_size.cls y_S_size y_S_size ∈ vd_tbl := vd_mt (List.mem_of_getElem? (i := 277) (by decide +kernel)) rfl
def y_B_size : MethodName := ⟨"VersionDepot$Blobs", "size", "()I"⟩
abbrev c_B_size : ByteArray := prog_2_method_4_code
set_option maxRecDepth 100000 in
theorem mo_B_size : (y_B_size.cls ≠ "java/lang/invoke/MethodHandle" ∧ y_B_size.cls ≠ "java/lang/invoke/VarHandle" ∧ (parseMethodDescriptor y_B_size.desc).map (fun d => d.parameters.length) = some 0 ∧ Cond.code y_B_size c_B_size 3 (some .int) ∈ vd_tbl ∧ Cond.initialized y_B_size.cls ∈ vd_tbl) := ⟨by decide +kernel, by decide +kernel, by decide +kernel, vd_mt (List.mem_of_getElem? (i := 282) rfl) rfl, vd_mt (List.mem_of_getElem? (i := 27) (by decide +kernel)) rfl⟩
theorem wi_B_size : Cond.instanceMethod y_B_size ∈ vd_tbl := vd_mt (List.mem_of_getElem? (i := 280) (by decide +kernel)) rfl
theorem ws_B_size : Cond.selects y_B_size.cls y_B_size y_B_size ∈ vd_tbl := vd_mt (List.mem_of_getElem? (i := 281) (by decide +kernel)) rfl
def y_J_bitCount : MethodName := ⟨"java/lang/Long", "bitCount", "(J)I"⟩
abbrev c_J_bitCount : ByteArray := prog_8_method_50_code
set_option maxRecDepth 100000 in
theorem mo_J_bitCount : (y_J_bitCount.cls ≠ "java/lang/invoke/MethodHandle" ∧ y_J_bitCount.cls ≠ "java/lang/invoke/VarHandle" ∧ (parseMethodDescriptor y_J_bitCount.desc).map (fun d => d.parameters.length) = some 1 ∧ Cond.code y_J_bitCount c_J_bitCount 2 (some .int) ∈ vd_tbl ∧ Cond.initialized y_J_bitCount.cls ∈ vd_tbl) := ⟨by decide +kernel, by decide +kernel, by decide +kernel, vd_mt (List.mem_of_getElem? (i := 285) rfl) rfl, vd_mt (List.mem_of_getElem? (i := 31) (by decide +kernel)) rfl⟩
theorem wt_J_bitCount : Cond.static y_J_bitCount ∈ vd_tbl := vd_mt (List.mem_of_getElem? (i := 284) (by decide +kernel)) rfl
def y_W_size : MethodName := ⟨"VersionDepot$Rows", "size", "()I"⟩
abbrev c_W_size : ByteArray := prog_3_method_7_code
set_option maxRecDepth 100000 in
theorem mo_W_size : (y_W_size.cls ≠ "java/lang/invoke/MethodHandle" ∧ y_W_size.cls ≠ "java/lang/invoke/VarHandle" ∧ (parseMethodDescriptor y_W_size.desc).map (fun d => d.parameters.length) = some 0 ∧ Cond.code y_W_size c_W_size 3 (some .int) ∈ vd_tbl ∧ Cond.initialized y_W_size.cls ∈ vd_tbl) := ⟨by decide +kernel, by decide +kernel, by decide +kernel, vd_mt (List.mem_of_getElem? (i := 292) rfl) rfl, vd_mt (List.mem_of_getElem? (i := 28) (by decide +kernel)) rfl⟩
theorem wi_W_size : Cond.instanceMethod y_W_size ∈ vd_tbl := vd_mt (List.mem_of_getElem? (i := 290) (by decide +kernel)) rfl
theorem ws_W_size : Cond.selects y_W_size.cls y_W_size y_W_size ∈ vd_tbl := vd_mt (List.mem_of_getElem? (i := 291) (by decide +kernel)) rfl
def y_S_commits : MethodName := ⟨"VersionDepot$Store", "commits", "()I"⟩
abbrev c_S_commits : ByteArray := prog_4_method_4_code
set_option maxRecDepth 100000 in
theorem mo_S_commits : (y_S_commits.cls ≠ "java/lang/invoke/MethodHandle" ∧ y_S_commits.cls ≠ "java/lang/invoke/VarHandle" ∧ (parseMethodDescriptor y_S_commits.desc).map (fun d => d.parameters.length) = some 0 ∧ Cond.code y_S_commits c_S_commits 1 (some .int) ∈ vd_tbl ∧ Cond.initialized y_S_commits.cls ∈ vd_tbl) := ⟨by decide +kernel, by decide +kernel, by decide +kernel, vd_mt (List.mem_of_getElem? (i := 296) rfl) rfl, vd_mt (List.mem_of_getElem? (i := 26) (by decide +kernel)) rfl⟩
theorem wi_S_commits : Cond.instanceMethod y_S_commits ∈ vd_tbl := vd_mt (List.mem_of_getElem? (i := 294) (by decide +kernel)) rfl
theorem ws_S_commits : Cond.selects y_S_commits.cls y_S_commits y_S_commits ∈ vd_tbl := vd_mt (List.mem_of_getElem? (i := 295) (by decide +kernel)) rfl
def y_I_bitCount : MethodName := ⟨"java/lang/Integer", "bitCount", "(I)I"⟩
abbrev c_I_bitCount : ByteArray := prog_7_method_49_code
set_option maxRecDepth 100000 in
theorem mo_I_bitCount : (y_I_bitCount.cls ≠ "java/lang/invoke/MethodHandle" ∧ y_I_bitCount.cls ≠ "java/lang/invoke/VarHandle" ∧ (parseMethodDescriptor y_I_bitCount.desc).map (fun d => d.parameters.length) = some 1 ∧ Cond.code y_I_bitCount c_I_bitCount 1 (some .int) ∈ vd_tbl ∧ Cond.initialized y_I_bitCount.cls ∈ vd_tbl) := ⟨by decide +kernel, by decide +kernel, by decide +kernel, vd_mt (List.mem_of_getElem? (i := 299) rfl) rfl, vd_mt (List.mem_of_getElem? (i := 32) (by decide +kernel)) rfl⟩
theorem wt_I_bitCount : Cond.static y_I_bitCount ∈ vd_tbl := vd_mt (List.mem_of_getElem? (i := 298) (by decide +kernel)) rfl
def y_S_ancestorsOf : MethodName := ⟨"VersionDepot$Store", "ancestorsOf", "(I)I"⟩
abbrev c_S_ancestorsOf : ByteArray := prog_4_method_8_code
set_option maxRecDepth 100000 in
theorem mo_S_ancestorsOf : (y_S_ancestorsOf.cls ≠ "java/lang/invoke/MethodHandle" ∧ y_S_ancestorsOf.cls ≠ "java/lang/invoke/VarHandle" ∧ (parseMethodDescriptor y_S_ancestorsOf.desc).map (fun d => d.parameters.length) = some 1 ∧ Cond.code y_S_ancestorsOf c_S_ancestorsOf 2 (some .int) ∈ vd_tbl ∧ Cond.initialized y_S_ancestorsOf.cls ∈ vd_tbl) := ⟨by decide +kernel, by decide +kernel, by decide +kernel, vd_mt (List.mem_of_getElem? (i := 306) rfl) rfl, vd_mt (List.mem_of_getElem? (i := 26) (by decide +kernel)) rfl⟩
theorem wi_S_ancestorsOf : Cond.instanceMethod y_S_ancestorsOf ∈ vd_tbl := vd_mt (List.mem_of_getElem? (i := 304) (by decide +kernel)) rfl
theorem ws_S_ancestorsOf : Cond.selects y_S_ancestorsOf.cls y_S_ancestorsOf y_S_ancestorsOf ∈ vd_tbl := vd_mt (List.mem_of_getElem? (i := 305) (by decide +kernel)) rfl
def y_S_keepOnly : MethodName := ⟨"VersionDepot$Store", "keepOnly", "(I)V"⟩
abbrev c_S_keepOnly : ByteArray := prog_4_method_14_code
set_option maxRecDepth 100000 in
theorem mo_S_keepOnly : (y_S_keepOnly.cls ≠ "java/lang/invoke/MethodHandle" ∧ y_S_keepOnly.cls ≠ "java/lang/invoke/VarHandle" ∧ (parseMethodDescriptor y_S_keepOnly.desc).map (fun d => d.parameters.length) = some 1 ∧ Cond.code y_S_keepOnly c_S_keepOnly 3 (none) ∈ vd_tbl ∧ Cond.initialized y_S_keepOnly.cls ∈ vd_tbl) := ⟨by decide +kernel, by decide +kernel, by decide +kernel, vd_mt (List.mem_of_getElem? (i := 310) rfl) rfl, vd_mt (List.mem_of_getElem? (i := 26) (by decide +kernel)) rfl⟩
theorem wi_S_keepOnly : Cond.instanceMethod y_S_keepOnly ∈ vd_tbl := vd_mt (List.mem_of_getElem? (i := 308) (by decide +kernel)) rfl
theorem ws_S_keepOnly : Cond.selects y_S_keepOnly.cls y_S_keepOnly y_S_keepOnly ∈ vd_tbl := vd_mt (List.mem_of_getElem? (i := 309) (by decide +kernel)) rfl
def y_B_clear : MethodName := ⟨"VersionDepot$Blobs", "clear", "()V"⟩
abbrev c_B_clear : ByteArray := prog_2_method_3_code
set_option maxRecDepth 100000 in
theorem mo_B_clear : (y_B_clear.cls ≠ "java/lang/invoke/MethodHandle" ∧ y_B_clear.cls ≠ "java/lang/invoke/VarHandle" ∧ (parseMethodDescriptor y_B_clear.desc).map (fun d => d.parameters.length) = some 0 ∧ Cond.code y_B_clear c_B_clear 2 (none) ∈ vd_tbl ∧ Cond.initialized y_B_clear.cls ∈ vd_tbl) := ⟨by decide +kernel, by decide +kernel, by decide +kernel, vd_mt (List.mem_of_getElem? (i := 314) rfl) rfl, vd_mt (List.mem_of_getElem? (i := 27) (by decide +kernel)) rfl⟩
theorem wi_B_clear : Cond.instanceMethod y_B_clear ∈ vd_tbl := vd_mt (List.mem_of_getElem? (i := 312) (by decide +kernel)) rfl
theorem ws_B_clear : Cond.selects y_B_clear.cls y_B_clear y_B_clear ∈ vd_tbl := vd_mt (List.mem_of_getElem? (i := 313) (by decide +kernel)) rfl
def y_W_clear : MethodName := ⟨"VersionDepot$Rows", "clear", "()V"⟩
abbrev c_W_clear : ByteArray := prog_3_method_6_code
set_option maxRecDepth 100000 in
theorem mo_W_clear : (y_W_clear.cls ≠ "java/lang/invoke/MethodHandle" ∧ y_W_clear.cls ≠ "java/lang/invoke/VarHandle" ∧ (parseMethodDescriptor y_W_clear.desc).map (fun d => d.parameters.length) = some 0 ∧ Cond.code y_W_clear c_W_clear 2 (none) ∈ vd_tbl ∧ Cond.initialized y_W_clear.cls ∈ vd_tbl) := ⟨by decide +kernel, by decide +kernel, by decide +kernel, vd_mt (List.mem_of_getElem? (i := 318) rfl) rfl, vd_mt (List.mem_of_getElem? (i := 28) (by decide +kernel)) rfl⟩
theorem wi_W_clear : Cond.instanceMethod y_W_clear ∈ vd_tbl := vd_mt (List.mem_of_getElem? (i := 316) (by decide +kernel)) rfl
theorem ws_W_clear : Cond.selects y_W_clear.cls y_W_clear y_W_clear ∈ vd_tbl := vd_mt (List.mem_of_getElem? (i := 317) (by decide +kernel)) rfl
def y_S_keepAgain : MethodName := ⟨"VersionDepot$Store", "keepAgain", "(I)V"⟩
abbrev c_S_keepAgain : ByteArray := prog_4_method_15_code
set_option maxRecDepth 100000 in
theorem mo_S_keepAgain : (y_S_keepAgain.cls ≠ "java/lang/invoke/MethodHandle" ∧ y_S_keepAgain.cls ≠ "java/lang/invoke/VarHandle" ∧ (parseMethodDescriptor y_S_keepAgain.desc).map (fun d => d.parameters.length) = some 1 ∧ Cond.code y_S_keepAgain c_S_keepAgain 5 (none) ∈ vd_tbl ∧ Cond.initialized y_S_keepAgain.cls ∈ vd_tbl) := ⟨by decide +kernel, by decide +kernel, by decide +kernel, vd_mt (List.mem_of_getElem? (i := 323) rfl) rfl, vd_mt (List.mem_of_getElem? (i := 26) (by decide +kernel)) rfl⟩
theorem wi_S_keepAgain : Cond.instanceMethod y_S_keepAgain ∈ vd_tbl := vd_mt (List.mem_of_getElem? (i := 321) (by decide +kernel)) rfl
theorem ws_S_keepAgain : Cond.selects y_S_keepAgain.cls y_S_keepAgain y_S_keepAgain ∈ vd_tbl := vd_mt (List.mem_of_getElem? (i := 322) (by decide +kernel)) rfl
def y_W_keepAgain : MethodName := ⟨"VersionDepot$Rows", "keepAgain", "(I)V"⟩
abbrev c_W_keepAgain : ByteArray := prog_3_method_5_code
set_option maxRecDepth 100000 in
theorem mo_W_keepAgain : (y_W_keepAgain.cls ≠ "java/lang/invoke/MethodHandle" ∧ y_W_keepAgain.cls ≠ "java/lang/invoke/VarHandle" ∧ (parseMethodDescriptor y_W_keepAgain.desc).map (fun d => d.parameters.length) = some 1 ∧ Cond.code y_W_keepAgain c_W_keepAgain 2 (none) ∈ vd_tbl ∧ Cond.initialized y_W_keepAgain.cls ∈ vd_tbl) := ⟨by decide +kernel, by decide +kernel, by decide +kernel, vd_mt (List.mem_of_getElem? (i := 327) rfl) rfl, vd_mt (List.mem_of_getElem? (i := 28) (by decide +kernel)) rfl⟩
theorem wi_W_keepAgain : Cond.instanceMethod y_W_keepAgain ∈ vd_tbl := vd_mt (List.mem_of_getElem? (i := 325) (by decide +kernel)) rfl
theorem ws_W_keepAgain : Cond.selects y_W_keepAgain.cls y_W_keepAgain y_W_keepAgain ∈ vd_tbl := vd_mt (List.mem_of_getElem? (i := 326) (by decide +kernel)) rfl
def y_D_content : MethodName := ⟨"VersionDepot", "content", "(II)I"⟩
abbrev c_D_content : ByteArray := prog_1_method_13_code
set_option maxRecDepth 100000 in
theorem mo_D_content : (y_D_content.cls ≠ "java/lang/invoke/MethodHandle" ∧ y_D_content.cls ≠ "java/lang/invoke/VarHandle" ∧ (parseMethodDescriptor y_D_content.desc).map (fun d => d.parameters.length) = some 2 ∧ Cond.code y_D_content c_D_content 3 (some .int) ∈ vd_tbl ∧ Cond.initialized y_D_content.cls ∈ vd_tbl) := ⟨by decide +kernel, by decide +kernel, by decide +kernel, vd_mt (List.mem_of_getElem? (i := 331) rfl) rfl, vd_mt (List.mem_of_getElem? (i := 25) (by decide +kernel)) rfl⟩
theorem wi_D_content : Cond.instanceMethod y_D_content ∈ vd_tbl := vd_mt (List.mem_of_getElem? (i := 329) (by decide +kernel)) rfl
theorem ws_D_content : Cond.selects y_D_content.cls y_D_content y_D_content ∈ vd_tbl := vd_mt (List.mem_of_getElem? (i := 330) (by decide +kernel)) rfl
def y_D_at : MethodName := ⟨"VersionDepot", "at", "(II)I"⟩
abbrev c_D_at : ByteArray := prog_1_method_14_code
set_option maxRecDepth 100000 in
theorem mo_D_at : (y_D_at.cls ≠ "java/lang/invoke/MethodHandle" ∧ y_D_at.cls ≠ "java/lang/invoke/VarHandle" ∧ (parseMethodDescriptor y_D_at.desc).map (fun d => d.parameters.length) = some 2 ∧ Cond.code y_D_at c_D_at 3 (some .int) ∈ vd_tbl ∧ Cond.initialized y_D_at.cls ∈ vd_tbl) := ⟨by decide +kernel, by decide +kernel, by decide +kernel, vd_mt (List.mem_of_getElem? (i := 335) rfl) rfl, vd_mt (List.mem_of_getElem? (i := 25) (by decide +kernel)) rfl⟩
theorem wi_D_at : Cond.instanceMethod y_D_at ∈ vd_tbl := vd_mt (List.mem_of_getElem? (i := 333) (by decide +kernel)) rfl
theorem ws_D_at : Cond.selects y_D_at.cls y_D_at y_D_at ∈ vd_tbl := vd_mt (List.mem_of_getElem? (i := 334) (by decide +kernel)) rfl
def y_D_parent : MethodName := ⟨"VersionDepot", "parent", "(II)I"⟩
abbrev c_D_parent : ByteArray := prog_1_method_15_code
set_option maxRecDepth 100000 in
theorem mo_D_parent : (y_D_parent.cls ≠ "java/lang/invoke/MethodHandle" ∧ y_D_parent.cls ≠ "java/lang/invoke/VarHandle" ∧ (parseMethodDescriptor y_D_parent.desc).map (fun d => d.parameters.length) = some 2 ∧ Cond.code y_D_parent c_D_parent 3 (some .int) ∈ vd_tbl ∧ Cond.initialized y_D_parent.cls ∈ vd_tbl) := ⟨by decide +kernel, by decide +kernel, by decide +kernel, vd_mt (List.mem_of_getElem? (i := 339) rfl) rfl, vd_mt (List.mem_of_getElem? (i := 25) (by decide +kernel)) rfl⟩
theorem wi_D_parent : Cond.instanceMethod y_D_parent ∈ vd_tbl := vd_mt (List.mem_of_getElem? (i := 337) (by decide +kernel)) rfl
theorem ws_D_parent : Cond.selects y_D_parent.cls y_D_parent y_D_parent ∈ vd_tbl := vd_mt (List.mem_of_getElem? (i := 338) (by decide +kernel)) rfl
def y_D_branchAt : MethodName := ⟨"VersionDepot", "branchAt", "(I)I"⟩
abbrev c_D_branchAt : ByteArray := prog_1_method_16_code
set_option maxRecDepth 100000 in
theorem mo_D_branchAt : (y_D_branchAt.cls ≠ "java/lang/invoke/MethodHandle" ∧ y_D_branchAt.cls ≠ "java/lang/invoke/VarHandle" ∧ (parseMethodDescriptor y_D_branchAt.desc).map (fun d => d.parameters.length) = some 1 ∧ Cond.code y_D_branchAt c_D_branchAt 2 (some .int) ∈ vd_tbl ∧ Cond.initialized y_D_branchAt.cls ∈ vd_tbl) := ⟨by decide +kernel, by decide +kernel, by decide +kernel, vd_mt (List.mem_of_getElem? (i := 343) rfl) rfl, vd_mt (List.mem_of_getElem? (i := 25) (by decide +kernel)) rfl⟩
theorem wi_D_branchAt : Cond.instanceMethod y_D_branchAt ∈ vd_tbl := vd_mt (List.mem_of_getElem? (i := 341) (by decide +kernel)) rfl
theorem ws_D_branchAt : Cond.selects y_D_branchAt.cls y_D_branchAt y_D_branchAt ∈ vd_tbl := vd_mt (List.mem_of_getElem? (i := 342) (by decide +kernel)) rfl
def y_D_common : MethodName := ⟨"VersionDepot", "common", "(II)I"⟩
abbrev c_D_common : ByteArray := prog_1_method_17_code
set_option maxRecDepth 100000 in
theorem mo_D_common : (y_D_common.cls ≠ "java/lang/invoke/MethodHandle" ∧ y_D_common.cls ≠ "java/lang/invoke/VarHandle" ∧ (parseMethodDescriptor y_D_common.desc).map (fun d => d.parameters.length) = some 2 ∧ Cond.code y_D_common c_D_common 3 (some .int) ∈ vd_tbl ∧ Cond.initialized y_D_common.cls ∈ vd_tbl) := ⟨by decide +kernel, by decide +kernel, by decide +kernel, vd_mt (List.mem_of_getElem? (i := 347) rfl) rfl, vd_mt (List.mem_of_getElem? (i := 25) (by decide +kernel)) rfl⟩
theorem wi_D_common : Cond.instanceMethod y_D_common ∈ vd_tbl := vd_mt (List.mem_of_getElem? (i := 345) (by decide +kernel)) rfl
theorem ws_D_common : Cond.selects y_D_common.cls y_D_common y_D_common ∈ vd_tbl := vd_mt (List.mem_of_getElem? (i := 346) (by decide +kernel)) rfl
def y_D_differ : MethodName := ⟨"VersionDepot", "differ", "(II)I"⟩
abbrev c_D_differ : ByteArray := prog_1_method_18_code
set_option maxRecDepth 100000 in
theorem mo_D_differ : (y_D_differ.cls ≠ "java/lang/invoke/MethodHandle" ∧ y_D_differ.cls ≠ "java/lang/invoke/VarHandle" ∧ (parseMethodDescriptor y_D_differ.desc).map (fun d => d.parameters.length) = some 2 ∧ Cond.code y_D_differ c_D_differ 5 (some .int) ∈ vd_tbl ∧ Cond.initialized y_D_differ.cls ∈ vd_tbl) := ⟨by decide +kernel, by decide +kernel, by decide +kernel, vd_mt (List.mem_of_getElem? (i := 351) rfl) rfl, vd_mt (List.mem_of_getElem? (i := 25) (by decide +kernel)) rfl⟩
theorem wi_D_differ : Cond.instanceMethod y_D_differ ∈ vd_tbl := vd_mt (List.mem_of_getElem? (i := 349) (by decide +kernel)) rfl
theorem ws_D_differ : Cond.selects y_D_differ.cls y_D_differ y_D_differ ∈ vd_tbl := vd_mt (List.mem_of_getElem? (i := 350) (by decide +kernel)) rfl
def y_D_clashing : MethodName := ⟨"VersionDepot", "clashing", "(I)Z"⟩
abbrev c_D_clashing : ByteArray := prog_1_method_19_code
set_option maxRecDepth 100000 in
theorem mo_D_clashing : (y_D_clashing.cls ≠ "java/lang/invoke/MethodHandle" ∧ y_D_clashing.cls ≠ "java/lang/invoke/VarHandle" ∧ (parseMethodDescriptor y_D_clashing.desc).map (fun d => d.parameters.length) = some 1 ∧ Cond.code y_D_clashing c_D_clashing 2 (some .boolean) ∈ vd_tbl ∧ Cond.initialized y_D_clashing.cls ∈ vd_tbl) := ⟨by decide +kernel, by decide +kernel, by decide +kernel, vd_mt (List.mem_of_getElem? (i := 355) rfl) rfl, vd_mt (List.mem_of_getElem? (i := 25) (by decide +kernel)) rfl⟩
theorem wi_D_clashing : Cond.instanceMethod y_D_clashing ∈ vd_tbl := vd_mt (List.mem_of_getElem? (i := 353) (by decide +kernel)) rfl
theorem ws_D_clashing : Cond.selects y_D_clashing.cls y_D_clashing y_D_clashing ∈ vd_tbl := vd_mt (List.mem_of_getElem? (i := 354) (by decide +kernel)) rfl
def y_D_count : MethodName := ⟨"VersionDepot", "count", "(I)I"⟩
abbrev c_D_count : ByteArray := prog_1_method_20_code
set_option maxRecDepth 100000 in
theorem mo_D_count : (y_D_count.cls ≠ "java/lang/invoke/MethodHandle" ∧ y_D_count.cls ≠ "java/lang/invoke/VarHandle" ∧ (parseMethodDescriptor y_D_count.desc).map (fun d => d.parameters.length) = some 1 ∧ Cond.code y_D_count c_D_count 2 (some .int) ∈ vd_tbl ∧ Cond.initialized y_D_count.cls ∈ vd_tbl) := ⟨by decide +kernel, by decide +kernel, by decide +kernel, vd_mt (List.mem_of_getElem? (i := 359) rfl) rfl, vd_mt (List.mem_of_getElem? (i := 25) (by decide +kernel)) rfl⟩
theorem wi_D_count : Cond.instanceMethod y_D_count ∈ vd_tbl := vd_mt (List.mem_of_getElem? (i := 357) (by decide +kernel)) rfl
theorem ws_D_count : Cond.selects y_D_count.cls y_D_count y_D_count ∈ vd_tbl := vd_mt (List.mem_of_getElem? (i := 358) (by decide +kernel)) rfl
def y_M_init : MethodName := ⟨"VersionDepotModel", "<init>", "()V"⟩
abbrev c_M_init : ByteArray := prog_6_method_1_code
set_option maxRecDepth 100000 in
theorem mo_M_init : (y_M_init.cls ≠ "java/lang/invoke/MethodHandle" ∧ y_M_init.cls ≠ "java/lang/invoke/VarHandle" ∧ (parseMethodDescriptor y_M_init.desc).map (fun d => d.parameters.length) = some 0 ∧ Cond.code y_M_init c_M_init 1 (none) ∈ vd_tbl ∧ Cond.initialized y_M_init.cls ∈ vd_tbl) := ⟨by decide +kernel, by decide +kernel, by decide +kernel, vd_mt (List.mem_of_getElem? (i := 368) rfl) rfl, vd_mt (List.mem_of_getElem? (i := 29) (by decide +kernel)) rfl⟩
theorem wi_M_init : Cond.instanceMethod y_M_init ∈ vd_tbl := vd_mt (List.mem_of_getElem? (i := 367) (by decide +kernel)) rfl
def y_M_write : MethodName := ⟨"VersionDepotModel", "write", "(II)I"⟩
abbrev c_M_write : ByteArray := prog_6_method_9_code
set_option maxRecDepth 100000 in
theorem mo_M_write : (y_M_write.cls ≠ "java/lang/invoke/MethodHandle" ∧ y_M_write.cls ≠ "java/lang/invoke/VarHandle" ∧ (parseMethodDescriptor y_M_write.desc).map (fun d => d.parameters.length) = some 2 ∧ Cond.code y_M_write c_M_write 3 (some .int) ∈ vd_tbl ∧ Cond.initialized y_M_write.cls ∈ vd_tbl) := ⟨by decide +kernel, by decide +kernel, by decide +kernel, vd_mt (List.mem_of_getElem? (i := 410) rfl) rfl, vd_mt (List.mem_of_getElem? (i := 29) (by decide +kernel)) rfl⟩
theorem wi_M_write : Cond.instanceMethod y_M_write ∈ vd_tbl := vd_mt (List.mem_of_getElem? (i := 408) (by decide +kernel)) rfl
theorem ws_M_write : Cond.selects y_M_write.cls y_M_write y_M_write ∈ vd_tbl := vd_mt (List.mem_of_getElem? (i := 409) (by decide +kernel)) rfl
def y_M_in : MethodName := ⟨"VersionDepotModel", "in", "(III)Z"⟩
abbrev c_M_in : ByteArray := prog_6_method_2_code
set_option maxRecDepth 100000 in
theorem mo_M_in : (y_M_in.cls ≠ "java/lang/invoke/MethodHandle" ∧ y_M_in.cls ≠ "java/lang/invoke/VarHandle" ∧ (parseMethodDescriptor y_M_in.desc).map (fun d => d.parameters.length) = some 3 ∧ Cond.code y_M_in c_M_in 3 (some .boolean) ∈ vd_tbl ∧ Cond.initialized y_M_in.cls ∈ vd_tbl) := ⟨by decide +kernel, by decide +kernel, by decide +kernel, vd_mt (List.mem_of_getElem? (i := 413) rfl) rfl, vd_mt (List.mem_of_getElem? (i := 29) (by decide +kernel)) rfl⟩
theorem wt_M_in : Cond.static y_M_in ∈ vd_tbl := vd_mt (List.mem_of_getElem? (i := 412) (by decide +kernel)) rfl
def y_M_stage : MethodName := ⟨"VersionDepotModel", "stage", "(I)I"⟩
abbrev c_M_stage : ByteArray := prog_6_method_10_code
set_option maxRecDepth 100000 in
theorem mo_M_stage : (y_M_stage.cls ≠ "java/lang/invoke/MethodHandle" ∧ y_M_stage.cls ≠ "java/lang/invoke/VarHandle" ∧ (parseMethodDescriptor y_M_stage.desc).map (fun d => d.parameters.length) = some 1 ∧ Cond.code y_M_stage c_M_stage 3 (some .int) ∈ vd_tbl ∧ Cond.initialized y_M_stage.cls ∈ vd_tbl) := ⟨by decide +kernel, by decide +kernel, by decide +kernel, vd_mt (List.mem_of_getElem? (i := 417) rfl) rfl, vd_mt (List.mem_of_getElem? (i := 29) (by decide +kernel)) rfl⟩
theorem wi_M_stage : Cond.instanceMethod y_M_stage ∈ vd_tbl := vd_mt (List.mem_of_getElem? (i := 415) (by decide +kernel)) rfl
theorem ws_M_stage : Cond.selects y_M_stage.cls y_M_stage y_M_stage ∈ vd_tbl := vd_mt (List.mem_of_getElem? (i := 416) (by decide +kernel)) rfl
def y_M_commit : MethodName := ⟨"VersionDepotModel", "commit", "()I"⟩
abbrev c_M_commit : ByteArray := prog_6_method_13_code
set_option maxRecDepth 100000 in
theorem mo_M_commit : (y_M_commit.cls ≠ "java/lang/invoke/MethodHandle" ∧ y_M_commit.cls ≠ "java/lang/invoke/VarHandle" ∧ (parseMethodDescriptor y_M_commit.desc).map (fun d => d.parameters.length) = some 0 ∧ Cond.code y_M_commit c_M_commit 3 (some .int) ∈ vd_tbl ∧ Cond.initialized y_M_commit.cls ∈ vd_tbl) := ⟨by decide +kernel, by decide +kernel, by decide +kernel, vd_mt (List.mem_of_getElem? (i := 421) rfl) rfl, vd_mt (List.mem_of_getElem? (i := 29) (by decide +kernel)) rfl⟩
theorem wi_M_commit : Cond.instanceMethod y_M_commit ∈ vd_tbl := vd_mt (List.mem_of_getElem? (i := 419) (by decide +kernel)) rfl
theorem ws_M_commit : Cond.selects y_M_commit.cls y_M_commit y_M_commit ∈ vd_tbl := vd_mt (List.mem_of_getElem? (i := 420) (by decide +kernel)) rfl
def y_M_clashes : MethodName := ⟨"VersionDepotModel", "clashes", "()I"⟩
abbrev c_M_clashes : ByteArray := prog_6_method_12_code
set_option maxRecDepth 100000 in
theorem mo_M_clashes : (y_M_clashes.cls ≠ "java/lang/invoke/MethodHandle" ∧ y_M_clashes.cls ≠ "java/lang/invoke/VarHandle" ∧ (parseMethodDescriptor y_M_clashes.desc).map (fun d => d.parameters.length) = some 0 ∧ Cond.code y_M_clashes c_M_clashes 3 (some .int) ∈ vd_tbl ∧ Cond.initialized y_M_clashes.cls ∈ vd_tbl) := ⟨by decide +kernel, by decide +kernel, by decide +kernel, vd_mt (List.mem_of_getElem? (i := 425) rfl) rfl, vd_mt (List.mem_of_getElem? (i := 29) (by decide +kernel)) rfl⟩
theorem wi_M_clashes : Cond.instanceMethod y_M_clashes ∈ vd_tbl := vd_mt (List.mem_of_getElem? (i := 424) (by decide +kernel)) rfl
theorem ws_M_clashes : Cond.selects y_M_clashes.cls y_M_clashes y_M_clashes ∈ vd_tbl := vd_mt (List.mem_of_getElem? (i := 8) (by decide +kernel)) rfl
def y_M_here : MethodName := ⟨"VersionDepotModel", "here", "()I"⟩
abbrev c_M_here : ByteArray := prog_6_method_3_code
set_option maxRecDepth 100000 in
theorem mo_M_here : (y_M_here.cls ≠ "java/lang/invoke/MethodHandle" ∧ y_M_here.cls ≠ "java/lang/invoke/VarHandle" ∧ (parseMethodDescriptor y_M_here.desc).map (fun d => d.parameters.length) = some 0 ∧ Cond.code y_M_here c_M_here 1 (some .int) ∈ vd_tbl ∧ Cond.initialized y_M_here.cls ∈ vd_tbl) := ⟨by decide +kernel, by decide +kernel, by decide +kernel, vd_mt (List.mem_of_getElem? (i := 429) rfl) rfl, vd_mt (List.mem_of_getElem? (i := 29) (by decide +kernel)) rfl⟩
theorem wi_M_here : Cond.instanceMethod y_M_here ∈ vd_tbl := vd_mt (List.mem_of_getElem? (i := 428) (by decide +kernel)) rfl
theorem ws_M_here : Cond.selects y_M_here.cls y_M_here y_M_here ∈ vd_tbl := vd_mt (List.mem_of_getElem? (i := 9) (by decide +kernel)) rfl
def y_M_same : MethodName := ⟨"VersionDepotModel", "same", "(II)Z"⟩
abbrev c_M_same : ByteArray := prog_6_method_5_code
set_option maxRecDepth 100000 in
theorem mo_M_same : (y_M_same.cls ≠ "java/lang/invoke/MethodHandle" ∧ y_M_same.cls ≠ "java/lang/invoke/VarHandle" ∧ (parseMethodDescriptor y_M_same.desc).map (fun d => d.parameters.length) = some 2 ∧ Cond.code y_M_same c_M_same 4 (some .boolean) ∈ vd_tbl ∧ Cond.initialized y_M_same.cls ∈ vd_tbl) := ⟨by decide +kernel, by decide +kernel, by decide +kernel, vd_mt (List.mem_of_getElem? (i := 433) rfl) rfl, vd_mt (List.mem_of_getElem? (i := 29) (by decide +kernel)) rfl⟩
theorem wi_M_same : Cond.instanceMethod y_M_same ∈ vd_tbl := vd_mt (List.mem_of_getElem? (i := 432) (by decide +kernel)) rfl
theorem ws_M_same : Cond.selects y_M_same.cls y_M_same y_M_same ∈ vd_tbl := vd_mt (List.mem_of_getElem? (i := 10) (by decide +kernel)) rfl
def y_M_make : MethodName := ⟨"VersionDepotModel", "make", "(III)I"⟩
abbrev c_M_make : ByteArray := prog_6_method_11_code
set_option maxRecDepth 100000 in
theorem mo_M_make : (y_M_make.cls ≠ "java/lang/invoke/MethodHandle" ∧ y_M_make.cls ≠ "java/lang/invoke/VarHandle" ∧ (parseMethodDescriptor y_M_make.desc).map (fun d => d.parameters.length) = some 3 ∧ Cond.code y_M_make c_M_make 5 (some .int) ∈ vd_tbl ∧ Cond.initialized y_M_make.cls ∈ vd_tbl) := ⟨by decide +kernel, by decide +kernel, by decide +kernel, vd_mt (List.mem_of_getElem? (i := 437) rfl) rfl, vd_mt (List.mem_of_getElem? (i := 29) (by decide +kernel)) rfl⟩
theorem wi_M_make : Cond.instanceMethod y_M_make ∈ vd_tbl := vd_mt (List.mem_of_getElem? (i := 436) (by decide +kernel)) rfl
theorem ws_M_make : Cond.selects y_M_make.cls y_M_make y_M_make ∈ vd_tbl := vd_mt (List.mem_of_getElem? (i := 11) (by decide +kernel)) rfl
def y_M_copy : MethodName := ⟨"VersionDepotModel", "copy", "(II)V"⟩
abbrev c_M_copy : ByteArray := prog_6_method_6_code
set_option maxRecDepth 100000 in
theorem mo_M_copy : (y_M_copy.cls ≠ "java/lang/invoke/MethodHandle" ∧ y_M_copy.cls ≠ "java/lang/invoke/VarHandle" ∧ (parseMethodDescriptor y_M_copy.desc).map (fun d => d.parameters.length) = some 2 ∧ Cond.code y_M_copy c_M_copy 4 (none) ∈ vd_tbl ∧ Cond.initialized y_M_copy.cls ∈ vd_tbl) := ⟨by decide +kernel, by decide +kernel, by decide +kernel, vd_mt (List.mem_of_getElem? (i := 441) rfl) rfl, vd_mt (List.mem_of_getElem? (i := 29) (by decide +kernel)) rfl⟩
theorem wi_M_copy : Cond.instanceMethod y_M_copy ∈ vd_tbl := vd_mt (List.mem_of_getElem? (i := 440) (by decide +kernel)) rfl
theorem ws_M_copy : Cond.selects y_M_copy.cls y_M_copy y_M_copy ∈ vd_tbl := vd_mt (List.mem_of_getElem? (i := 12) (by decide +kernel)) rfl
def y_M_branch : MethodName := ⟨"VersionDepotModel", "branch", "(I)I"⟩
abbrev c_M_branch : ByteArray := prog_6_method_14_code
set_option maxRecDepth 100000 in
theorem mo_M_branch : (y_M_branch.cls ≠ "java/lang/invoke/MethodHandle" ∧ y_M_branch.cls ≠ "java/lang/invoke/VarHandle" ∧ (parseMethodDescriptor y_M_branch.desc).map (fun d => d.parameters.length) = some 1 ∧ Cond.code y_M_branch c_M_branch 2 (some .int) ∈ vd_tbl ∧ Cond.initialized y_M_branch.cls ∈ vd_tbl) := ⟨by decide +kernel, by decide +kernel, by decide +kernel, vd_mt (List.mem_of_getElem? (i := 445) rfl) rfl, vd_mt (List.mem_of_getElem? (i := 29) (by decide +kernel)) rfl⟩
theorem wi_M_branch : Cond.instanceMethod y_M_branch ∈ vd_tbl := vd_mt (List.mem_of_getElem? (i := 443) (by decide +kernel)) rfl
theorem ws_M_branch : Cond.selects y_M_branch.cls y_M_branch y_M_branch ∈ vd_tbl := vd_mt (List.mem_of_getElem? (i := 444) (by decide +kernel)) rfl
def y_M_turn : MethodName := ⟨"VersionDepotModel", "turn", "(I)I"⟩
abbrev c_M_turn : ByteArray := prog_6_method_15_code
set_option maxRecDepth 100000 in
theorem mo_M_turn : (y_M_turn.cls ≠ "java/lang/invoke/MethodHandle" ∧ y_M_turn.cls ≠ "java/lang/invoke/VarHandle" ∧ (parseMethodDescriptor y_M_turn.desc).map (fun d => d.parameters.length) = some 1 ∧ Cond.code y_M_turn c_M_turn 2 (some .int) ∈ vd_tbl ∧ Cond.initialized y_M_turn.cls ∈ vd_tbl) := ⟨by decide +kernel, by decide +kernel, by decide +kernel, vd_mt (List.mem_of_getElem? (i := 449) rfl) rfl, vd_mt (List.mem_of_getElem? (i := 29) (by decide +kernel)) rfl⟩
theorem wi_M_turn : Cond.instanceMethod y_M_turn ∈ vd_tbl := vd_mt (List.mem_of_getElem? (i := 447) (by decide +kernel)) rfl
theorem ws_M_turn : Cond.selects y_M_turn.cls y_M_turn y_M_turn ∈ vd_tbl := vd_mt (List.mem_of_getElem? (i := 448) (by decide +kernel)) rfl
def y_M_tidy : MethodName := ⟨"VersionDepotModel", "tidy", "()Z"⟩
abbrev c_M_tidy : ByteArray := prog_6_method_8_code
set_option maxRecDepth 100000 in
theorem mo_M_tidy : (y_M_tidy.cls ≠ "java/lang/invoke/MethodHandle" ∧ y_M_tidy.cls ≠ "java/lang/invoke/VarHandle" ∧ (parseMethodDescriptor y_M_tidy.desc).map (fun d => d.parameters.length) = some 0 ∧ Cond.code y_M_tidy c_M_tidy 1 (some .boolean) ∈ vd_tbl ∧ Cond.initialized y_M_tidy.cls ∈ vd_tbl) := ⟨by decide +kernel, by decide +kernel, by decide +kernel, vd_mt (List.mem_of_getElem? (i := 453) rfl) rfl, vd_mt (List.mem_of_getElem? (i := 29) (by decide +kernel)) rfl⟩
theorem wi_M_tidy : Cond.instanceMethod y_M_tidy ∈ vd_tbl := vd_mt (List.mem_of_getElem? (i := 452) (by decide +kernel)) rfl
theorem ws_M_tidy : Cond.selects y_M_tidy.cls y_M_tidy y_M_tidy ∈ vd_tbl := vd_mt (List.mem_of_getElem? (i := 13) (by decide +kernel)) rfl
def y_M_show : MethodName := ⟨"VersionDepotModel", "show", "(I)V"⟩
abbrev c_M_show : ByteArray := prog_6_method_7_code
set_option maxRecDepth 100000 in
theorem mo_M_show : (y_M_show.cls ≠ "java/lang/invoke/MethodHandle" ∧ y_M_show.cls ≠ "java/lang/invoke/VarHandle" ∧ (parseMethodDescriptor y_M_show.desc).map (fun d => d.parameters.length) = some 1 ∧ Cond.code y_M_show c_M_show 2 (none) ∈ vd_tbl ∧ Cond.initialized y_M_show.cls ∈ vd_tbl) := ⟨by decide +kernel, by decide +kernel, by decide +kernel, vd_mt (List.mem_of_getElem? (i := 457) rfl) rfl, vd_mt (List.mem_of_getElem? (i := 29) (by decide +kernel)) rfl⟩
theorem wi_M_show : Cond.instanceMethod y_M_show ∈ vd_tbl := vd_mt (List.mem_of_getElem? (i := 456) (by decide +kernel)) rfl
theorem ws_M_show : Cond.selects y_M_show.cls y_M_show y_M_show ∈ vd_tbl := vd_mt (List.mem_of_getElem? (i := 14) (by decide +kernel)) rfl
def y_M_merge : MethodName := ⟨"VersionDepotModel", "merge", "(I)I"⟩
abbrev c_M_merge : ByteArray := prog_6_method_19_code
set_option maxRecDepth 100000 in
theorem mo_M_merge : (y_M_merge.cls ≠ "java/lang/invoke/MethodHandle" ∧ y_M_merge.cls ≠ "java/lang/invoke/VarHandle" ∧ (parseMethodDescriptor y_M_merge.desc).map (fun d => d.parameters.length) = some 1 ∧ Cond.code y_M_merge c_M_merge 5 (some .int) ∈ vd_tbl ∧ Cond.initialized y_M_merge.cls ∈ vd_tbl) := ⟨by decide +kernel, by decide +kernel, by decide +kernel, vd_mt (List.mem_of_getElem? (i := 461) rfl) rfl, vd_mt (List.mem_of_getElem? (i := 29) (by decide +kernel)) rfl⟩
theorem wi_M_merge : Cond.instanceMethod y_M_merge ∈ vd_tbl := vd_mt (List.mem_of_getElem? (i := 459) (by decide +kernel)) rfl
theorem ws_M_merge : Cond.selects y_M_merge.cls y_M_merge y_M_merge ∈ vd_tbl := vd_mt (List.mem_of_getElem? (i := 460) (by decide +kernel)) rfl
def y_M_shared : MethodName := ⟨"VersionDepotModel", "shared", "(II)I"⟩
abbrev c_M_shared : ByteArray := prog_6_method_17_code
set_option maxRecDepth 100000 in
theorem mo_M_shared : (y_M_shared.cls ≠ "java/lang/invoke/MethodHandle" ∧ y_M_shared.cls ≠ "java/lang/invoke/VarHandle" ∧ (parseMethodDescriptor y_M_shared.desc).map (fun d => d.parameters.length) = some 2 ∧ Cond.code y_M_shared c_M_shared 5 (some .int) ∈ vd_tbl ∧ Cond.initialized y_M_shared.cls ∈ vd_tbl) := ⟨by decide +kernel, by decide +kernel, by decide +kernel, vd_mt (List.mem_of_getElem? (i := 465) rfl) rfl, vd_mt (List.mem_of_getElem? (i := 29) (by decide +kernel)) rfl⟩
theorem wi_M_shared : Cond.instanceMethod y_M_shared ∈ vd_tbl := vd_mt (List.mem_of_getElem? (i := 464) (by decide +kernel)) rfl
theorem ws_M_shared : Cond.selects y_M_shared.cls y_M_shared y_M_shared ∈ vd_tbl := vd_mt (List.mem_of_getElem? (i := 15) (by decide +kernel)) rfl
def y_M_mark : MethodName := ⟨"VersionDepotModel", "mark", "(I)V"⟩
abbrev c_M_mark : ByteArray := prog_6_method_16_code
set_option maxRecDepth 100000 in
theorem mo_M_mark : (y_M_mark.cls ≠ "java/lang/invoke/MethodHandle" ∧ y_M_mark.cls ≠ "java/lang/invoke/VarHandle" ∧ (parseMethodDescriptor y_M_mark.desc).map (fun d => d.parameters.length) = some 1 ∧ Cond.code y_M_mark c_M_mark 3 (none) ∈ vd_tbl ∧ Cond.initialized y_M_mark.cls ∈ vd_tbl) := ⟨by decide +kernel, by decide +kernel, by decide +kernel, vd_mt (List.mem_of_getElem? (i := 469) rfl) rfl, vd_mt (List.mem_of_getElem? (i := 29) (by decide +kernel)) rfl⟩
theorem wi_M_mark : Cond.instanceMethod y_M_mark ∈ vd_tbl := vd_mt (List.mem_of_getElem? (i := 468) (by decide +kernel)) rfl
theorem ws_M_mark : Cond.selects y_M_mark.cls y_M_mark y_M_mark ∈ vd_tbl := vd_mt (List.mem_of_getElem? (i := 16) (by decide +kernel)) rfl
def y_M_mix : MethodName := ⟨"VersionDepotModel", "mix", "(IIIZ)I"⟩
abbrev c_M_mix : ByteArray := prog_6_method_18_code
set_option maxRecDepth 100000 in
theorem mo_M_mix : (y_M_mix.cls ≠ "java/lang/invoke/MethodHandle" ∧ y_M_mix.cls ≠ "java/lang/invoke/VarHandle" ∧ (parseMethodDescriptor y_M_mix.desc).map (fun d => d.parameters.length) = some 4 ∧ Cond.code y_M_mix c_M_mix 11 (some .int) ∈ vd_tbl ∧ Cond.initialized y_M_mix.cls ∈ vd_tbl) := ⟨by decide +kernel, by decide +kernel, by decide +kernel, vd_mt (List.mem_of_getElem? (i := 473) rfl) rfl, vd_mt (List.mem_of_getElem? (i := 29) (by decide +kernel)) rfl⟩
theorem wi_M_mix : Cond.instanceMethod y_M_mix ∈ vd_tbl := vd_mt (List.mem_of_getElem? (i := 472) (by decide +kernel)) rfl
theorem ws_M_mix : Cond.selects y_M_mix.cls y_M_mix y_M_mix ∈ vd_tbl := vd_mt (List.mem_of_getElem? (i := 17) (by decide +kernel)) rfl
def y_M_abort : MethodName := ⟨"VersionDepotModel", "abort", "()I"⟩
abbrev c_M_abort : ByteArray := prog_6_method_20_code
set_option maxRecDepth 100000 in
theorem mo_M_abort : (y_M_abort.cls ≠ "java/lang/invoke/MethodHandle" ∧ y_M_abort.cls ≠ "java/lang/invoke/VarHandle" ∧ (parseMethodDescriptor y_M_abort.desc).map (fun d => d.parameters.length) = some 0 ∧ Cond.code y_M_abort c_M_abort 2 (some .int) ∈ vd_tbl ∧ Cond.initialized y_M_abort.cls ∈ vd_tbl) := ⟨by decide +kernel, by decide +kernel, by decide +kernel, vd_mt (List.mem_of_getElem? (i := 477) rfl) rfl, vd_mt (List.mem_of_getElem? (i := 29) (by decide +kernel)) rfl⟩
theorem wi_M_abort : Cond.instanceMethod y_M_abort ∈ vd_tbl := vd_mt (List.mem_of_getElem? (i := 475) (by decide +kernel)) rfl
theorem ws_M_abort : Cond.selects y_M_abort.cls y_M_abort y_M_abort ∈ vd_tbl := vd_mt (List.mem_of_getElem? (i := 476) (by decide +kernel)) rfl
def y_M_pick : MethodName := ⟨"VersionDepotModel", "pick", "(I)I"⟩
abbrev c_M_pick : ByteArray := prog_6_method_21_code
set_option maxRecDepth 100000 in
theorem mo_M_pick : (y_M_pick.cls ≠ "java/lang/invoke/MethodHandle" ∧ y_M_pick.cls ≠ "java/lang/invoke/VarHandle" ∧ (parseMethodDescriptor y_M_pick.desc).map (fun d => d.parameters.length) = some 1 ∧ Cond.code y_M_pick c_M_pick 2 (some .int) ∈ vd_tbl ∧ Cond.initialized y_M_pick.cls ∈ vd_tbl) := ⟨by decide +kernel, by decide +kernel, by decide +kernel, vd_mt (List.mem_of_getElem? (i := 481) rfl) rfl, vd_mt (List.mem_of_getElem? (i := 29) (by decide +kernel)) rfl⟩
theorem wi_M_pick : Cond.instanceMethod y_M_pick ∈ vd_tbl := vd_mt (List.mem_of_getElem? (i := 479) (by decide +kernel)) rfl
theorem ws_M_pick : Cond.selects y_M_pick.cls y_M_pick y_M_pick ∈ vd_tbl := vd_mt (List.mem_of_getElem? (i := 480) (by decide +kernel)) rfl
def y_M_isStored : MethodName := ⟨"VersionDepotModel", "isStored", "(I)Z"⟩
abbrev c_M_isStored : ByteArray := prog_6_method_4_code
set_option maxRecDepth 100000 in
theorem mo_M_isStored : (y_M_isStored.cls ≠ "java/lang/invoke/MethodHandle" ∧ y_M_isStored.cls ≠ "java/lang/invoke/VarHandle" ∧ (parseMethodDescriptor y_M_isStored.desc).map (fun d => d.parameters.length) = some 1 ∧ Cond.code y_M_isStored c_M_isStored 2 (some .boolean) ∈ vd_tbl ∧ Cond.initialized y_M_isStored.cls ∈ vd_tbl) := ⟨by decide +kernel, by decide +kernel, by decide +kernel, vd_mt (List.mem_of_getElem? (i := 485) rfl) rfl, vd_mt (List.mem_of_getElem? (i := 29) (by decide +kernel)) rfl⟩
theorem wi_M_isStored : Cond.instanceMethod y_M_isStored ∈ vd_tbl := vd_mt (List.mem_of_getElem? (i := 484) (by decide +kernel)) rfl
theorem ws_M_isStored : Cond.selects y_M_isStored.cls y_M_isStored y_M_isStored ∈ vd_tbl := vd_mt (List.mem_of_getElem? (i := 18) (by decide +kernel)) rfl
def y_M_reset : MethodName := ⟨"VersionDepotModel", "reset", "(I)I"⟩
abbrev c_M_reset : ByteArray := prog_6_method_22_code
set_option maxRecDepth 100000 in
theorem mo_M_reset : (y_M_reset.cls ≠ "java/lang/invoke/MethodHandle" ∧ y_M_reset.cls ≠ "java/lang/invoke/VarHandle" ∧ (parseMethodDescriptor y_M_reset.desc).map (fun d => d.parameters.length) = some 1 ∧ Cond.code y_M_reset c_M_reset 2 (some .int) ∈ vd_tbl ∧ Cond.initialized y_M_reset.cls ∈ vd_tbl) := ⟨by decide +kernel, by decide +kernel, by decide +kernel, vd_mt (List.mem_of_getElem? (i := 489) rfl) rfl, vd_mt (List.mem_of_getElem? (i := 29) (by decide +kernel)) rfl⟩
theorem wi_M_reset : Cond.instanceMethod y_M_reset ∈ vd_tbl := vd_mt (List.mem_of_getElem? (i := 487) (by decide +kernel)) rfl
theorem ws_M_reset : Cond.selects y_M_reset.cls y_M_reset y_M_reset ∈ vd_tbl := vd_mt (List.mem_of_getElem? (i := 488) (by decide +kernel)) rfl
def y_M_remove : MethodName := ⟨"VersionDepotModel", "remove", "(I)I"⟩
abbrev c_M_remove : ByteArray := prog_6_method_23_code
set_option maxRecDepth 100000 in
theorem mo_M_remove : (y_M_remove.cls ≠ "java/lang/invoke/MethodHandle" ∧ y_M_remove.cls ≠ "java/lang/invoke/VarHandle" ∧ (parseMethodDescriptor y_M_remove.desc).map (fun d => d.parameters.length) = some 1 ∧ Cond.code y_M_remove c_M_remove 2 (some .int) ∈ vd_tbl ∧ Cond.initialized y_M_remove.cls ∈ vd_tbl) := ⟨by decide +kernel, by decide +kernel, by decide +kernel, vd_mt (List.mem_of_getElem? (i := 493) rfl) rfl, vd_mt (List.mem_of_getElem? (i := 29) (by decide +kernel)) rfl⟩
theorem wi_M_remove : Cond.instanceMethod y_M_remove ∈ vd_tbl := vd_mt (List.mem_of_getElem? (i := 491) (by decide +kernel)) rfl
theorem ws_M_remove : Cond.selects y_M_remove.cls y_M_remove y_M_remove ∈ vd_tbl := vd_mt (List.mem_of_getElem? (i := 492) (by decide +kernel)) rfl
def y_M_sweep : MethodName := ⟨"VersionDepotModel", "sweep", "()I"⟩
abbrev c_M_sweep : ByteArray := prog_6_method_25_code
set_option maxRecDepth 100000 in
theorem mo_M_sweep : (y_M_sweep.cls ≠ "java/lang/invoke/MethodHandle" ∧ y_M_sweep.cls ≠ "java/lang/invoke/VarHandle" ∧ (parseMethodDescriptor y_M_sweep.desc).map (fun d => d.parameters.length) = some 0 ∧ Cond.code y_M_sweep c_M_sweep 4 (some .int) ∈ vd_tbl ∧ Cond.initialized y_M_sweep.cls ∈ vd_tbl) := ⟨by decide +kernel, by decide +kernel, by decide +kernel, vd_mt (List.mem_of_getElem? (i := 497) rfl) rfl, vd_mt (List.mem_of_getElem? (i := 29) (by decide +kernel)) rfl⟩
theorem wi_M_sweep : Cond.instanceMethod y_M_sweep ∈ vd_tbl := vd_mt (List.mem_of_getElem? (i := 495) (by decide +kernel)) rfl
theorem ws_M_sweep : Cond.selects y_M_sweep.cls y_M_sweep y_M_sweep ∈ vd_tbl := vd_mt (List.mem_of_getElem? (i := 496) (by decide +kernel)) rfl
def y_M_objects : MethodName := ⟨"VersionDepotModel", "objects", "()I"⟩
abbrev c_M_objects : ByteArray := prog_6_method_24_code
set_option maxRecDepth 100000 in
theorem mo_M_objects : (y_M_objects.cls ≠ "java/lang/invoke/MethodHandle" ∧ y_M_objects.cls ≠ "java/lang/invoke/VarHandle" ∧ (parseMethodDescriptor y_M_objects.desc).map (fun d => d.parameters.length) = some 0 ∧ Cond.code y_M_objects c_M_objects 1 (some .int) ∈ vd_tbl ∧ Cond.initialized y_M_objects.cls ∈ vd_tbl) := ⟨by decide +kernel, by decide +kernel, by decide +kernel, vd_mt (List.mem_of_getElem? (i := 501) rfl) rfl, vd_mt (List.mem_of_getElem? (i := 29) (by decide +kernel)) rfl⟩
theorem wi_M_objects : Cond.instanceMethod y_M_objects ∈ vd_tbl := vd_mt (List.mem_of_getElem? (i := 500) (by decide +kernel)) rfl
theorem ws_M_objects : Cond.selects y_M_objects.cls y_M_objects y_M_objects ∈ vd_tbl := vd_mt (List.mem_of_getElem? (i := 19) (by decide +kernel)) rfl
def y_M_count : MethodName := ⟨"VersionDepotModel", "count", "(I)I"⟩
abbrev c_M_count : ByteArray := prog_6_method_37_code
set_option maxRecDepth 100000 in
theorem mo_M_count : (y_M_count.cls ≠ "java/lang/invoke/MethodHandle" ∧ y_M_count.cls ≠ "java/lang/invoke/VarHandle" ∧ (parseMethodDescriptor y_M_count.desc).map (fun d => d.parameters.length) = some 1 ∧ Cond.code y_M_count c_M_count 4 (some .int) ∈ vd_tbl ∧ Cond.initialized y_M_count.cls ∈ vd_tbl) := ⟨by decide +kernel, by decide +kernel, by decide +kernel, vd_mt (List.mem_of_getElem? (i := 505) rfl) rfl, vd_mt (List.mem_of_getElem? (i := 29) (by decide +kernel)) rfl⟩
theorem wi_M_count : Cond.instanceMethod y_M_count ∈ vd_tbl := vd_mt (List.mem_of_getElem? (i := 503) (by decide +kernel)) rfl
theorem ws_M_count : Cond.selects y_M_count.cls y_M_count y_M_count ∈ vd_tbl := vd_mt (List.mem_of_getElem? (i := 504) (by decide +kernel)) rfl
def y_M_folders : MethodName := ⟨"VersionDepotModel", "folders", "()I"⟩
abbrev c_M_folders : ByteArray := prog_6_method_34_code
set_option maxRecDepth 100000 in
theorem mo_M_folders : (y_M_folders.cls ≠ "java/lang/invoke/MethodHandle" ∧ y_M_folders.cls ≠ "java/lang/invoke/VarHandle" ∧ (parseMethodDescriptor y_M_folders.desc).map (fun d => d.parameters.length) = some 0 ∧ Cond.code y_M_folders c_M_folders 5 (some .int) ∈ vd_tbl ∧ Cond.initialized y_M_folders.cls ∈ vd_tbl) := ⟨by decide +kernel, by decide +kernel, by decide +kernel, vd_mt (List.mem_of_getElem? (i := 509) rfl) rfl, vd_mt (List.mem_of_getElem? (i := 29) (by decide +kernel)) rfl⟩
theorem wi_M_folders : Cond.instanceMethod y_M_folders ∈ vd_tbl := vd_mt (List.mem_of_getElem? (i := 508) (by decide +kernel)) rfl
theorem ws_M_folders : Cond.selects y_M_folders.cls y_M_folders y_M_folders ∈ vd_tbl := vd_mt (List.mem_of_getElem? (i := 20) (by decide +kernel)) rfl
def y_M_alike : MethodName := ⟨"VersionDepotModel", "alike", "(II)Z"⟩
abbrev c_M_alike : ByteArray := prog_6_method_33_code
set_option maxRecDepth 100000 in
theorem mo_M_alike : (y_M_alike.cls ≠ "java/lang/invoke/MethodHandle" ∧ y_M_alike.cls ≠ "java/lang/invoke/VarHandle" ∧ (parseMethodDescriptor y_M_alike.desc).map (fun d => d.parameters.length) = some 2 ∧ Cond.code y_M_alike c_M_alike 4 (some .boolean) ∈ vd_tbl ∧ Cond.initialized y_M_alike.cls ∈ vd_tbl) := ⟨by decide +kernel, by decide +kernel, by decide +kernel, vd_mt (List.mem_of_getElem? (i := 513) rfl) rfl, vd_mt (List.mem_of_getElem? (i := 29) (by decide +kernel)) rfl⟩
theorem wi_M_alike : Cond.instanceMethod y_M_alike ∈ vd_tbl := vd_mt (List.mem_of_getElem? (i := 512) (by decide +kernel)) rfl
theorem ws_M_alike : Cond.selects y_M_alike.cls y_M_alike y_M_alike ∈ vd_tbl := vd_mt (List.mem_of_getElem? (i := 21) (by decide +kernel)) rfl
def y_M_roots : MethodName := ⟨"VersionDepotModel", "roots", "()I"⟩
abbrev c_M_roots : ByteArray := prog_6_method_35_code
set_option maxRecDepth 100000 in
theorem mo_M_roots : (y_M_roots.cls ≠ "java/lang/invoke/MethodHandle" ∧ y_M_roots.cls ≠ "java/lang/invoke/VarHandle" ∧ (parseMethodDescriptor y_M_roots.desc).map (fun d => d.parameters.length) = some 0 ∧ Cond.code y_M_roots c_M_roots 5 (some .int) ∈ vd_tbl ∧ Cond.initialized y_M_roots.cls ∈ vd_tbl) := ⟨by decide +kernel, by decide +kernel, by decide +kernel, vd_mt (List.mem_of_getElem? (i := 517) rfl) rfl, vd_mt (List.mem_of_getElem? (i := 29) (by decide +kernel)) rfl⟩
theorem wi_M_roots : Cond.instanceMethod y_M_roots ∈ vd_tbl := vd_mt (List.mem_of_getElem? (i := 516) (by decide +kernel)) rfl
theorem ws_M_roots : Cond.selects y_M_roots.cls y_M_roots y_M_roots ∈ vd_tbl := vd_mt (List.mem_of_getElem? (i := 22) (by decide +kernel)) rfl
def y_M_changed : MethodName := ⟨"VersionDepotModel", "changed", "()I"⟩
abbrev c_M_changed : ByteArray := prog_6_method_36_code
set_option maxRecDepth 100000 in
theorem mo_M_changed : (y_M_changed.cls ≠ "java/lang/invoke/MethodHandle" ∧ y_M_changed.cls ≠ "java/lang/invoke/VarHandle" ∧ (parseMethodDescriptor y_M_changed.desc).map (fun d => d.parameters.length) = some 0 ∧ Cond.code y_M_changed c_M_changed 3 (some .int) ∈ vd_tbl ∧ Cond.initialized y_M_changed.cls ∈ vd_tbl) := ⟨by decide +kernel, by decide +kernel, by decide +kernel, vd_mt (List.mem_of_getElem? (i := 521) rfl) rfl, vd_mt (List.mem_of_getElem? (i := 29) (by decide +kernel)) rfl⟩
theorem wi_M_changed : Cond.instanceMethod y_M_changed ∈ vd_tbl := vd_mt (List.mem_of_getElem? (i := 520) (by decide +kernel)) rfl
theorem ws_M_changed : Cond.selects y_M_changed.cls y_M_changed y_M_changed ∈ vd_tbl := vd_mt (List.mem_of_getElem? (i := 23) (by decide +kernel)) rfl
def y_M_content : MethodName := ⟨"VersionDepotModel", "content", "(II)I"⟩
abbrev c_M_content : ByteArray := prog_6_method_26_code
set_option maxRecDepth 100000 in
theorem mo_M_content : (y_M_content.cls ≠ "java/lang/invoke/MethodHandle" ∧ y_M_content.cls ≠ "java/lang/invoke/VarHandle" ∧ (parseMethodDescriptor y_M_content.desc).map (fun d => d.parameters.length) = some 2 ∧ Cond.code y_M_content c_M_content 3 (some .int) ∈ vd_tbl ∧ Cond.initialized y_M_content.cls ∈ vd_tbl) := ⟨by decide +kernel, by decide +kernel, by decide +kernel, vd_mt (List.mem_of_getElem? (i := 525) rfl) rfl, vd_mt (List.mem_of_getElem? (i := 29) (by decide +kernel)) rfl⟩
theorem wi_M_content : Cond.instanceMethod y_M_content ∈ vd_tbl := vd_mt (List.mem_of_getElem? (i := 523) (by decide +kernel)) rfl
theorem ws_M_content : Cond.selects y_M_content.cls y_M_content y_M_content ∈ vd_tbl := vd_mt (List.mem_of_getElem? (i := 524) (by decide +kernel)) rfl
def y_M_at : MethodName := ⟨"VersionDepotModel", "at", "(II)I"⟩
abbrev c_M_at : ByteArray := prog_6_method_27_code
set_option maxRecDepth 100000 in
theorem mo_M_at : (y_M_at.cls ≠ "java/lang/invoke/MethodHandle" ∧ y_M_at.cls ≠ "java/lang/invoke/VarHandle" ∧ (parseMethodDescriptor y_M_at.desc).map (fun d => d.parameters.length) = some 2 ∧ Cond.code y_M_at c_M_at 3 (some .int) ∈ vd_tbl ∧ Cond.initialized y_M_at.cls ∈ vd_tbl) := ⟨by decide +kernel, by decide +kernel, by decide +kernel, vd_mt (List.mem_of_getElem? (i := 529) rfl) rfl, vd_mt (List.mem_of_getElem? (i := 29) (by decide +kernel)) rfl⟩
theorem wi_M_at : Cond.instanceMethod y_M_at ∈ vd_tbl := vd_mt (List.mem_of_getElem? (i := 527) (by decide +kernel)) rfl
theorem ws_M_at : Cond.selects y_M_at.cls y_M_at y_M_at ∈ vd_tbl := vd_mt (List.mem_of_getElem? (i := 528) (by decide +kernel)) rfl
def y_M_parent : MethodName := ⟨"VersionDepotModel", "parent", "(II)I"⟩
abbrev c_M_parent : ByteArray := prog_6_method_28_code
set_option maxRecDepth 100000 in
theorem mo_M_parent : (y_M_parent.cls ≠ "java/lang/invoke/MethodHandle" ∧ y_M_parent.cls ≠ "java/lang/invoke/VarHandle" ∧ (parseMethodDescriptor y_M_parent.desc).map (fun d => d.parameters.length) = some 2 ∧ Cond.code y_M_parent c_M_parent 3 (some .int) ∈ vd_tbl ∧ Cond.initialized y_M_parent.cls ∈ vd_tbl) := ⟨by decide +kernel, by decide +kernel, by decide +kernel, vd_mt (List.mem_of_getElem? (i := 533) rfl) rfl, vd_mt (List.mem_of_getElem? (i := 29) (by decide +kernel)) rfl⟩
theorem wi_M_parent : Cond.instanceMethod y_M_parent ∈ vd_tbl := vd_mt (List.mem_of_getElem? (i := 531) (by decide +kernel)) rfl
theorem ws_M_parent : Cond.selects y_M_parent.cls y_M_parent y_M_parent ∈ vd_tbl := vd_mt (List.mem_of_getElem? (i := 532) (by decide +kernel)) rfl
def y_M_branchAt : MethodName := ⟨"VersionDepotModel", "branchAt", "(I)I"⟩
abbrev c_M_branchAt : ByteArray := prog_6_method_29_code
set_option maxRecDepth 100000 in
theorem mo_M_branchAt : (y_M_branchAt.cls ≠ "java/lang/invoke/MethodHandle" ∧ y_M_branchAt.cls ≠ "java/lang/invoke/VarHandle" ∧ (parseMethodDescriptor y_M_branchAt.desc).map (fun d => d.parameters.length) = some 1 ∧ Cond.code y_M_branchAt c_M_branchAt 2 (some .int) ∈ vd_tbl ∧ Cond.initialized y_M_branchAt.cls ∈ vd_tbl) := ⟨by decide +kernel, by decide +kernel, by decide +kernel, vd_mt (List.mem_of_getElem? (i := 537) rfl) rfl, vd_mt (List.mem_of_getElem? (i := 29) (by decide +kernel)) rfl⟩
theorem wi_M_branchAt : Cond.instanceMethod y_M_branchAt ∈ vd_tbl := vd_mt (List.mem_of_getElem? (i := 535) (by decide +kernel)) rfl
theorem ws_M_branchAt : Cond.selects y_M_branchAt.cls y_M_branchAt y_M_branchAt ∈ vd_tbl := vd_mt (List.mem_of_getElem? (i := 536) (by decide +kernel)) rfl
def y_M_common : MethodName := ⟨"VersionDepotModel", "common", "(II)I"⟩
abbrev c_M_common : ByteArray := prog_6_method_30_code
set_option maxRecDepth 100000 in
theorem mo_M_common : (y_M_common.cls ≠ "java/lang/invoke/MethodHandle" ∧ y_M_common.cls ≠ "java/lang/invoke/VarHandle" ∧ (parseMethodDescriptor y_M_common.desc).map (fun d => d.parameters.length) = some 2 ∧ Cond.code y_M_common c_M_common 3 (some .int) ∈ vd_tbl ∧ Cond.initialized y_M_common.cls ∈ vd_tbl) := ⟨by decide +kernel, by decide +kernel, by decide +kernel, vd_mt (List.mem_of_getElem? (i := 541) rfl) rfl, vd_mt (List.mem_of_getElem? (i := 29) (by decide +kernel)) rfl⟩
theorem wi_M_common : Cond.instanceMethod y_M_common ∈ vd_tbl := vd_mt (List.mem_of_getElem? (i := 539) (by decide +kernel)) rfl
theorem ws_M_common : Cond.selects y_M_common.cls y_M_common y_M_common ∈ vd_tbl := vd_mt (List.mem_of_getElem? (i := 540) (by decide +kernel)) rfl
def y_M_differ : MethodName := ⟨"VersionDepotModel", "differ", "(II)I"⟩
abbrev c_M_differ : ByteArray := prog_6_method_31_code
set_option maxRecDepth 100000 in
theorem mo_M_differ : (y_M_differ.cls ≠ "java/lang/invoke/MethodHandle" ∧ y_M_differ.cls ≠ "java/lang/invoke/VarHandle" ∧ (parseMethodDescriptor y_M_differ.desc).map (fun d => d.parameters.length) = some 2 ∧ Cond.code y_M_differ c_M_differ 5 (some .int) ∈ vd_tbl ∧ Cond.initialized y_M_differ.cls ∈ vd_tbl) := ⟨by decide +kernel, by decide +kernel, by decide +kernel, vd_mt (List.mem_of_getElem? (i := 545) rfl) rfl, vd_mt (List.mem_of_getElem? (i := 29) (by decide +kernel)) rfl⟩
theorem wi_M_differ : Cond.instanceMethod y_M_differ ∈ vd_tbl := vd_mt (List.mem_of_getElem? (i := 543) (by decide +kernel)) rfl
theorem ws_M_differ : Cond.selects y_M_differ.cls y_M_differ y_M_differ ∈ vd_tbl := vd_mt (List.mem_of_getElem? (i := 544) (by decide +kernel)) rfl
def y_M_clashing : MethodName := ⟨"VersionDepotModel", "clashing", "(I)Z"⟩
abbrev c_M_clashing : ByteArray := prog_6_method_32_code
set_option maxRecDepth 100000 in
theorem mo_M_clashing : (y_M_clashing.cls ≠ "java/lang/invoke/MethodHandle" ∧ y_M_clashing.cls ≠ "java/lang/invoke/VarHandle" ∧ (parseMethodDescriptor y_M_clashing.desc).map (fun d => d.parameters.length) = some 1 ∧ Cond.code y_M_clashing c_M_clashing 2 (some .boolean) ∈ vd_tbl ∧ Cond.initialized y_M_clashing.cls ∈ vd_tbl) := ⟨by decide +kernel, by decide +kernel, by decide +kernel, vd_mt (List.mem_of_getElem? (i := 549) rfl) rfl, vd_mt (List.mem_of_getElem? (i := 29) (by decide +kernel)) rfl⟩
theorem wi_M_clashing : Cond.instanceMethod y_M_clashing ∈ vd_tbl := vd_mt (List.mem_of_getElem? (i := 547) (by decide +kernel)) rfl
theorem ws_M_clashing : Cond.selects y_M_clashing.cls y_M_clashing y_M_clashing ∈ vd_tbl := vd_mt (List.mem_of_getElem? (i := 548) (by decide +kernel)) rfl
theorem lk_B_11 : Cond.fieldLink "VersionDepot$Blobs" 11 "VersionDepot$Blobs" "bits" "[J" ∈ vd_tbl := vd_mt (List.mem_of_getElem? (i := 53) (by decide +kernel)) rfl
theorem lk_W_9 : Cond.fieldLink "VersionDepot$Rows" 9 "VersionDepot$Rows" "numbers" "[I" ∈ vd_tbl := vd_mt (List.mem_of_getElem? (i := 64) (by decide +kernel)) rfl
theorem lk_W_15 : Cond.fieldLink "VersionDepot$Rows" 15 "VersionDepot$Rows" "stored" "[Z" ∈ vd_tbl := vd_mt (List.mem_of_getElem? (i := 65) (by decide +kernel)) rfl
theorem lk_W_19 : Cond.fieldLink "VersionDepot$Rows" 19 "VersionDepot$Rows" "last" "I" ∈ vd_tbl := vd_mt (List.mem_of_getElem? (i := 66) (by decide +kernel)) rfl
theorem lk_S_12 : Cond.fieldLink "VersionDepot$Store" 12 "VersionDepot$Store" "blobs" "LVersionDepot$Blobs;" ∈ vd_tbl := vd_mt (List.mem_of_getElem? (i := 76) (by decide +kernel)) rfl
theorem lk_D_33 : Cond.fieldLink "VersionDepot" 33 "VersionDepot$Store" "blobs" "LVersionDepot$Blobs;" ∈ vd_tbl := vd_mt (List.mem_of_getElem? (i := 77) (by decide +kernel)) rfl
theorem lk_S_23 : Cond.fieldLink "VersionDepot$Store" 23 "VersionDepot$Store" "folders" "LVersionDepot$Rows;" ∈ vd_tbl := vd_mt (List.mem_of_getElem? (i := 78) (by decide +kernel)) rfl
theorem lk_D_115 : Cond.fieldLink "VersionDepot" 115 "VersionDepot$Store" "folders" "LVersionDepot$Rows;" ∈ vd_tbl := vd_mt (List.mem_of_getElem? (i := 79) (by decide +kernel)) rfl
theorem lk_S_27 : Cond.fieldLink "VersionDepot$Store" 27 "VersionDepot$Store" "roots" "LVersionDepot$Rows;" ∈ vd_tbl := vd_mt (List.mem_of_getElem? (i := 80) (by decide +kernel)) rfl
theorem lk_D_122 : Cond.fieldLink "VersionDepot" 122 "VersionDepot$Store" "roots" "LVersionDepot$Rows;" ∈ vd_tbl := vd_mt (List.mem_of_getElem? (i := 81) (by decide +kernel)) rfl
theorem lk_S_30 : Cond.fieldLink "VersionDepot$Store" 30 "VersionDepot$Store" "rootOf" "[I" ∈ vd_tbl := vd_mt (List.mem_of_getElem? (i := 82) (by decide +kernel)) rfl
theorem lk_S_34 : Cond.fieldLink "VersionDepot$Store" 34 "VersionDepot$Store" "firstParents" "[I" ∈ vd_tbl := vd_mt (List.mem_of_getElem? (i := 83) (by decide +kernel)) rfl
theorem lk_S_37 : Cond.fieldLink "VersionDepot$Store" 37 "VersionDepot$Store" "secondParents" "[I" ∈ vd_tbl := vd_mt (List.mem_of_getElem? (i := 84) (by decide +kernel)) rfl
theorem lk_S_40 : Cond.fieldLink "VersionDepot$Store" 40 "VersionDepot$Store" "ancestors" "[I" ∈ vd_tbl := vd_mt (List.mem_of_getElem? (i := 85) (by decide +kernel)) rfl
theorem lk_S_43 : Cond.fieldLink "VersionDepot$Store" 43 "VersionDepot$Store" "folderRow" "[I" ∈ vd_tbl := vd_mt (List.mem_of_getElem? (i := 86) (by decide +kernel)) rfl
theorem lk_S_46 : Cond.fieldLink "VersionDepot$Store" 46 "VersionDepot$Store" "made" "I" ∈ vd_tbl := vd_mt (List.mem_of_getElem? (i := 87) (by decide +kernel)) rfl
theorem lk_D_128 : Cond.fieldLink "VersionDepot" 128 "VersionDepot$Store" "made" "I" ∈ vd_tbl := vd_mt (List.mem_of_getElem? (i := 88) (by decide +kernel)) rfl
theorem lk_S_50 : Cond.fieldLink "VersionDepot$Store" 50 "VersionDepot$Store" "stored" "I" ∈ vd_tbl := vd_mt (List.mem_of_getElem? (i := 89) (by decide +kernel)) rfl
theorem lk_D_10 : Cond.fieldLink "VersionDepot" 10 "VersionDepot" "store" "LVersionDepot$Store;" ∈ vd_tbl := vd_mt (List.mem_of_getElem? (i := 111) (by decide +kernel)) rfl
theorem lk_D_16 : Cond.fieldLink "VersionDepot" 16 "VersionDepot" "work" "[I" ∈ vd_tbl := vd_mt (List.mem_of_getElem? (i := 112) (by decide +kernel)) rfl
theorem lk_D_20 : Cond.fieldLink "VersionDepot" 20 "VersionDepot" "index" "[I" ∈ vd_tbl := vd_mt (List.mem_of_getElem? (i := 113) (by decide +kernel)) rfl
theorem lk_D_23 : Cond.fieldLink "VersionDepot" 23 "VersionDepot" "mixture" "[I" ∈ vd_tbl := vd_mt (List.mem_of_getElem? (i := 114) (by decide +kernel)) rfl
theorem lk_D_26 : Cond.fieldLink "VersionDepot" 26 "VersionDepot" "tips" "[I" ∈ vd_tbl := vd_mt (List.mem_of_getElem? (i := 115) (by decide +kernel)) rfl
theorem lk_D_58 : Cond.fieldLink "VersionDepot" 58 "VersionDepot" "head" "I" ∈ vd_tbl := vd_mt (List.mem_of_getElem? (i := 116) (by decide +kernel)) rfl
theorem lk_D_47 : Cond.fieldLink "VersionDepot" 47 "VersionDepot" "merging" "I" ∈ vd_tbl := vd_mt (List.mem_of_getElem? (i := 117) (by decide +kernel)) rfl
theorem lk_D_43 : Cond.fieldLink "VersionDepot" 43 "VersionDepot" "clashes" "I" ∈ vd_tbl := vd_mt (List.mem_of_getElem? (i := 118) (by decide +kernel)) rfl
theorem lk_M_7 : Cond.fieldLink "VersionDepotModel" 7 "VersionDepotModel" "content" "[I" ∈ vd_tbl := vd_mt (List.mem_of_getElem? (i := 370) (by decide +kernel)) rfl
theorem lk_M_13 : Cond.fieldLink "VersionDepotModel" 13 "VersionDepotModel" "stored" "[Z" ∈ vd_tbl := vd_mt (List.mem_of_getElem? (i := 371) (by decide +kernel)) rfl
theorem lk_M_17 : Cond.fieldLink "VersionDepotModel" 17 "VersionDepotModel" "first" "[I" ∈ vd_tbl := vd_mt (List.mem_of_getElem? (i := 372) (by decide +kernel)) rfl
theorem lk_M_20 : Cond.fieldLink "VersionDepotModel" 20 "VersionDepotModel" "second" "[I" ∈ vd_tbl := vd_mt (List.mem_of_getElem? (i := 373) (by decide +kernel)) rfl
theorem lk_M_58 : Cond.fieldLink "VersionDepotModel" 58 "VersionDepotModel" "made" "I" ∈ vd_tbl := vd_mt (List.mem_of_getElem? (i := 374) (by decide +kernel)) rfl
theorem lk_M_23 : Cond.fieldLink "VersionDepotModel" 23 "VersionDepotModel" "branch" "[I" ∈ vd_tbl := vd_mt (List.mem_of_getElem? (i := 375) (by decide +kernel)) rfl
theorem lk_M_38 : Cond.fieldLink "VersionDepotModel" 38 "VersionDepotModel" "head" "I" ∈ vd_tbl := vd_mt (List.mem_of_getElem? (i := 376) (by decide +kernel)) rfl
theorem lk_M_64 : Cond.fieldLink "VersionDepotModel" 64 "VersionDepotModel" "merging" "I" ∈ vd_tbl := vd_mt (List.mem_of_getElem? (i := 377) (by decide +kernel)) rfl
theorem lk_M_26 : Cond.fieldLink "VersionDepotModel" 26 "VersionDepotModel" "clashing" "[Z" ∈ vd_tbl := vd_mt (List.mem_of_getElem? (i := 378) (by decide +kernel)) rfl
theorem lk_M_29 : Cond.fieldLink "VersionDepotModel" 29 "VersionDepotModel" "blob" "[Z" ∈ vd_tbl := vd_mt (List.mem_of_getElem? (i := 379) (by decide +kernel)) rfl
theorem lk_M_32 : Cond.fieldLink "VersionDepotModel" 32 "VersionDepotModel" "marked" "[Z" ∈ vd_tbl := vd_mt (List.mem_of_getElem? (i := 380) (by decide +kernel)) rfl
theorem lk_M_35 : Cond.fieldLink "VersionDepotModel" 35 "VersionDepotModel" "other" "[Z" ∈ vd_tbl := vd_mt (List.mem_of_getElem? (i := 381) (by decide +kernel)) rfl
theorem ml_L_9 : Cond.methodLink "VersionDepotLaw" 9 y_D_init ∈ vd_tbl := vd_mt (List.mem_of_getElem? (i := 35) (by decide +kernel)) rfl
theorem ml_D_1 : Cond.methodLink "VersionDepot" 1 objectInit ∈ vd_tbl := vd_mt (List.mem_of_getElem? (i := 38) (by decide +kernel)) rfl
theorem ml_D_9 : Cond.methodLink "VersionDepot" 9 y_S_init ∈ vd_tbl := vd_mt (List.mem_of_getElem? (i := 43) (by decide +kernel)) rfl
theorem ml_S_3 : Cond.methodLink "VersionDepot$Store" 3 objectInit ∈ vd_tbl := vd_mt (List.mem_of_getElem? (i := 46) (by decide +kernel)) rfl
theorem ml_S_11 : Cond.methodLink "VersionDepot$Store" 11 y_B_init ∈ vd_tbl := vd_mt (List.mem_of_getElem? (i := 49) (by decide +kernel)) rfl
theorem ml_B_3 : Cond.methodLink "VersionDepot$Blobs" 3 objectInit ∈ vd_tbl := vd_mt (List.mem_of_getElem? (i := 52) (by decide +kernel)) rfl
theorem ml_S_20 : Cond.methodLink "VersionDepot$Store" 20 y_W_init ∈ vd_tbl := vd_mt (List.mem_of_getElem? (i := 60) (by decide +kernel)) rfl
theorem ml_W_3 : Cond.methodLink "VersionDepot$Rows" 3 objectInit ∈ vd_tbl := vd_mt (List.mem_of_getElem? (i := 63) (by decide +kernel)) rfl
theorem ml_L_13 : Cond.methodLink "VersionDepotLaw" 13 y_D_write ∈ vd_tbl := vd_mt (List.mem_of_getElem? (i := 136) (by decide +kernel)) rfl
theorem ml_D_29 : Cond.methodLink "VersionDepot" 29 y_D_isFile ∈ vd_tbl := vd_mt (List.mem_of_getElem? (i := 140) (by decide +kernel)) rfl
theorem ml_L_18 : Cond.methodLink "VersionDepotLaw" 18 y_D_stage ∈ vd_tbl := vd_mt (List.mem_of_getElem? (i := 143) (by decide +kernel)) rfl
theorem ml_D_37 : Cond.methodLink "VersionDepot" 37 y_B_keep ∈ vd_tbl := vd_mt (List.mem_of_getElem? (i := 147) (by decide +kernel)) rfl
theorem ml_L_23 : Cond.methodLink "VersionDepotLaw" 23 y_D_commit ∈ vd_tbl := vd_mt (List.mem_of_getElem? (i := 151) (by decide +kernel)) rfl
theorem ml_D_50 : Cond.methodLink "VersionDepot" 50 y_D_isAsHere ∈ vd_tbl := vd_mt (List.mem_of_getElem? (i := 155) (by decide +kernel)) rfl
theorem ml_D_61 : Cond.methodLink "VersionDepot" 61 y_D_here ∈ vd_tbl := vd_mt (List.mem_of_getElem? (i := 159) (by decide +kernel)) rfl
theorem ml_D_108 : Cond.methodLink "VersionDepot" 108 y_S_contentOf ∈ vd_tbl := vd_mt (List.mem_of_getElem? (i := 163) (by decide +kernel)) rfl
theorem ml_S_67 : Cond.methodLink "VersionDepot$Store" 67 y_W_get ∈ vd_tbl := vd_mt (List.mem_of_getElem? (i := 167) (by decide +kernel)) rfl
theorem ml_D_54 : Cond.methodLink "VersionDepot" 54 y_S_isFull ∈ vd_tbl := vd_mt (List.mem_of_getElem? (i := 171) (by decide +kernel)) rfl
theorem ml_D_65 : Cond.methodLink "VersionDepot" 65 y_S_make ∈ vd_tbl := vd_mt (List.mem_of_getElem? (i := 175) (by decide +kernel)) rfl
theorem ml_S_71 : Cond.methodLink "VersionDepot$Store" 71 y_S_keepRoot ∈ vd_tbl := vd_mt (List.mem_of_getElem? (i := 179) (by decide +kernel)) rfl
theorem ml_S_75 : Cond.methodLink "VersionDepot$Store" 75 y_S_keepFolder ∈ vd_tbl := vd_mt (List.mem_of_getElem? (i := 183) (by decide +kernel)) rfl
theorem ml_S_82 : Cond.methodLink "VersionDepot$Store" 82 y_B_keep ∈ vd_tbl := vd_mt (List.mem_of_getElem? (i := 187) (by decide +kernel)) rfl
theorem ml_S_79 : Cond.methodLink "VersionDepot$Store" 79 y_W_keep ∈ vd_tbl := vd_mt (List.mem_of_getElem? (i := 188) (by decide +kernel)) rfl
theorem ml_W_23 : Cond.methodLink "VersionDepot$Rows" 23 y_W_isAlike ∈ vd_tbl := vd_mt (List.mem_of_getElem? (i := 192) (by decide +kernel)) rfl
theorem ml_W_27 : Cond.methodLink "VersionDepot$Rows" 27 arraycopyName ∈ vd_tbl := vd_mt (List.mem_of_getElem? (i := 196) (by decide +kernel)) rfl
theorem ml_L_28 : Cond.methodLink "VersionDepotLaw" 28 y_D_branch ∈ vd_tbl := vd_mt (List.mem_of_getElem? (i := 199) (by decide +kernel)) rfl
theorem ml_D_69 : Cond.methodLink "VersionDepot" 69 y_D_isBranch ∈ vd_tbl := vd_mt (List.mem_of_getElem? (i := 203) (by decide +kernel)) rfl
theorem ml_L_32 : Cond.methodLink "VersionDepotLaw" 32 y_D_turn ∈ vd_tbl := vd_mt (List.mem_of_getElem? (i := 206) (by decide +kernel)) rfl
theorem ml_D_72 : Cond.methodLink "VersionDepot" 72 y_D_isThere ∈ vd_tbl := vd_mt (List.mem_of_getElem? (i := 210) (by decide +kernel)) rfl
theorem ml_D_75 : Cond.methodLink "VersionDepot" 75 y_D_isTidy ∈ vd_tbl := vd_mt (List.mem_of_getElem? (i := 214) (by decide +kernel)) rfl
theorem ml_D_136 : Cond.methodLink "VersionDepot" 136 y_D_unstaged ∈ vd_tbl := vd_mt (List.mem_of_getElem? (i := 218) (by decide +kernel)) rfl
theorem ml_D_78 : Cond.methodLink "VersionDepot" 78 y_D_moveTo ∈ vd_tbl := vd_mt (List.mem_of_getElem? (i := 222) (by decide +kernel)) rfl
theorem ml_L_36 : Cond.methodLink "VersionDepotLaw" 36 y_D_merge ∈ vd_tbl := vd_mt (List.mem_of_getElem? (i := 226) (by decide +kernel)) rfl
theorem ml_D_82 : Cond.methodLink "VersionDepot" 82 y_S_leadsTo ∈ vd_tbl := vd_mt (List.mem_of_getElem? (i := 230) (by decide +kernel)) rfl
theorem ml_D_86 : Cond.methodLink "VersionDepot" 86 y_D_mergeApart ∈ vd_tbl := vd_mt (List.mem_of_getElem? (i := 234) (by decide +kernel)) rfl
theorem ml_D_111 : Cond.methodLink "VersionDepot" 111 y_S_meetingOf ∈ vd_tbl := vd_mt (List.mem_of_getElem? (i := 238) (by decide +kernel)) rfl
theorem ml_D_96 : Cond.methodLink "VersionDepot" 96 y_D_mixHereWith ∈ vd_tbl := vd_mt (List.mem_of_getElem? (i := 242) (by decide +kernel)) rfl
theorem ml_D_139 : Cond.methodLink "VersionDepot" 139 arraycopyName ∈ vd_tbl := vd_mt (List.mem_of_getElem? (i := 246) (by decide +kernel)) rfl
theorem ml_L_40 : Cond.methodLink "VersionDepotLaw" 40 y_D_abort ∈ vd_tbl := vd_mt (List.mem_of_getElem? (i := 247) (by decide +kernel)) rfl
theorem ml_L_44 : Cond.methodLink "VersionDepotLaw" 44 y_D_pick ∈ vd_tbl := vd_mt (List.mem_of_getElem? (i := 251) (by decide +kernel)) rfl
theorem ml_D_89 : Cond.methodLink "VersionDepot" 89 y_S_holds ∈ vd_tbl := vd_mt (List.mem_of_getElem? (i := 255) (by decide +kernel)) rfl
theorem ml_D_92 : Cond.methodLink "VersionDepot" 92 y_S_parentOf ∈ vd_tbl := vd_mt (List.mem_of_getElem? (i := 259) (by decide +kernel)) rfl
theorem ml_L_48 : Cond.methodLink "VersionDepotLaw" 48 y_D_reset ∈ vd_tbl := vd_mt (List.mem_of_getElem? (i := 263) (by decide +kernel)) rfl
theorem ml_L_52 : Cond.methodLink "VersionDepotLaw" 52 y_D_remove ∈ vd_tbl := vd_mt (List.mem_of_getElem? (i := 267) (by decide +kernel)) rfl
theorem ml_L_56 : Cond.methodLink "VersionDepotLaw" 56 y_D_sweep ∈ vd_tbl := vd_mt (List.mem_of_getElem? (i := 271) (by decide +kernel)) rfl
theorem ml_D_99 : Cond.methodLink "VersionDepot" 99 y_S_size ∈ vd_tbl := vd_mt (List.mem_of_getElem? (i := 275) (by decide +kernel)) rfl
theorem ml_S_59 : Cond.methodLink "VersionDepot$Store" 59 y_B_size ∈ vd_tbl := vd_mt (List.mem_of_getElem? (i := 279) (by decide +kernel)) rfl
theorem ml_B_15 : Cond.methodLink "VersionDepot$Blobs" 15 y_J_bitCount ∈ vd_tbl := vd_mt (List.mem_of_getElem? (i := 283) (by decide +kernel)) rfl
theorem ml_S_63 : Cond.methodLink "VersionDepot$Store" 63 y_W_size ∈ vd_tbl := vd_mt (List.mem_of_getElem? (i := 289) (by decide +kernel)) rfl
theorem ml_S_64 : Cond.methodLink "VersionDepot$Store" 64 y_S_commits ∈ vd_tbl := vd_mt (List.mem_of_getElem? (i := 293) (by decide +kernel)) rfl
theorem ml_S_53 : Cond.methodLink "VersionDepot$Store" 53 y_I_bitCount ∈ vd_tbl := vd_mt (List.mem_of_getElem? (i := 297) (by decide +kernel)) rfl
theorem ml_D_102 : Cond.methodLink "VersionDepot" 102 y_S_ancestorsOf ∈ vd_tbl := vd_mt (List.mem_of_getElem? (i := 303) (by decide +kernel)) rfl
theorem ml_D_105 : Cond.methodLink "VersionDepot" 105 y_S_keepOnly ∈ vd_tbl := vd_mt (List.mem_of_getElem? (i := 307) (by decide +kernel)) rfl
theorem ml_S_84 : Cond.methodLink "VersionDepot$Store" 84 y_B_clear ∈ vd_tbl := vd_mt (List.mem_of_getElem? (i := 311) (by decide +kernel)) rfl
theorem ml_S_87 : Cond.methodLink "VersionDepot$Store" 87 y_W_clear ∈ vd_tbl := vd_mt (List.mem_of_getElem? (i := 315) (by decide +kernel)) rfl
theorem ml_S_88 : Cond.methodLink "VersionDepot$Store" 88 y_S_holds ∈ vd_tbl := vd_mt (List.mem_of_getElem? (i := 319) (by decide +kernel)) rfl
theorem ml_S_92 : Cond.methodLink "VersionDepot$Store" 92 y_S_keepAgain ∈ vd_tbl := vd_mt (List.mem_of_getElem? (i := 320) (by decide +kernel)) rfl
theorem ml_S_95 : Cond.methodLink "VersionDepot$Store" 95 y_W_keepAgain ∈ vd_tbl := vd_mt (List.mem_of_getElem? (i := 324) (by decide +kernel)) rfl
theorem ml_L_60 : Cond.methodLink "VersionDepotLaw" 60 y_D_content ∈ vd_tbl := vd_mt (List.mem_of_getElem? (i := 328) (by decide +kernel)) rfl
theorem ml_L_64 : Cond.methodLink "VersionDepotLaw" 64 y_D_at ∈ vd_tbl := vd_mt (List.mem_of_getElem? (i := 332) (by decide +kernel)) rfl
theorem ml_L_68 : Cond.methodLink "VersionDepotLaw" 68 y_D_parent ∈ vd_tbl := vd_mt (List.mem_of_getElem? (i := 336) (by decide +kernel)) rfl
theorem ml_L_72 : Cond.methodLink "VersionDepotLaw" 72 y_D_branchAt ∈ vd_tbl := vd_mt (List.mem_of_getElem? (i := 340) (by decide +kernel)) rfl
theorem ml_L_76 : Cond.methodLink "VersionDepotLaw" 76 y_D_common ∈ vd_tbl := vd_mt (List.mem_of_getElem? (i := 344) (by decide +kernel)) rfl
theorem ml_L_80 : Cond.methodLink "VersionDepotLaw" 80 y_D_differ ∈ vd_tbl := vd_mt (List.mem_of_getElem? (i := 348) (by decide +kernel)) rfl
theorem ml_L_84 : Cond.methodLink "VersionDepotLaw" 84 y_D_clashing ∈ vd_tbl := vd_mt (List.mem_of_getElem? (i := 352) (by decide +kernel)) rfl
theorem ml_L_89 : Cond.methodLink "VersionDepotLaw" 89 y_D_count ∈ vd_tbl := vd_mt (List.mem_of_getElem? (i := 356) (by decide +kernel)) rfl
theorem ml_D_114 : Cond.methodLink "VersionDepot" 114 y_B_size ∈ vd_tbl := vd_mt (List.mem_of_getElem? (i := 360) (by decide +kernel)) rfl
theorem ml_D_119 : Cond.methodLink "VersionDepot" 119 y_W_size ∈ vd_tbl := vd_mt (List.mem_of_getElem? (i := 361) (by decide +kernel)) rfl
theorem ml_D_125 : Cond.methodLink "VersionDepot" 125 y_S_commits ∈ vd_tbl := vd_mt (List.mem_of_getElem? (i := 362) (by decide +kernel)) rfl
theorem ml_D_131 : Cond.methodLink "VersionDepot" 131 y_I_bitCount ∈ vd_tbl := vd_mt (List.mem_of_getElem? (i := 363) (by decide +kernel)) rfl
theorem ml_L_12 : Cond.methodLink "VersionDepotLaw" 12 y_M_init ∈ vd_tbl := vd_mt (List.mem_of_getElem? (i := 366) (by decide +kernel)) rfl
theorem ml_M_1 : Cond.methodLink "VersionDepotModel" 1 objectInit ∈ vd_tbl := vd_mt (List.mem_of_getElem? (i := 369) (by decide +kernel)) rfl
theorem ml_L_17 : Cond.methodLink "VersionDepotLaw" 17 y_M_write ∈ vd_tbl := vd_mt (List.mem_of_getElem? (i := 407) (by decide +kernel)) rfl
theorem ml_M_42 : Cond.methodLink "VersionDepotModel" 42 y_M_in ∈ vd_tbl := vd_mt (List.mem_of_getElem? (i := 411) (by decide +kernel)) rfl
theorem ml_L_22 : Cond.methodLink "VersionDepotLaw" 22 y_M_stage ∈ vd_tbl := vd_mt (List.mem_of_getElem? (i := 414) (by decide +kernel)) rfl
theorem ml_L_27 : Cond.methodLink "VersionDepotLaw" 27 y_M_commit ∈ vd_tbl := vd_mt (List.mem_of_getElem? (i := 418) (by decide +kernel)) rfl
theorem ml_M_61 : Cond.methodLink "VersionDepotModel" 61 y_M_clashes ∈ vd_tbl := vd_mt (List.mem_of_getElem? (i := 422) (by decide +kernel)) rfl
theorem ml_M_54 : Cond.methodLink "VersionDepotModel" 54 y_M_here ∈ vd_tbl := vd_mt (List.mem_of_getElem? (i := 426) (by decide +kernel)) rfl
theorem ml_M_50 : Cond.methodLink "VersionDepotModel" 50 y_M_same ∈ vd_tbl := vd_mt (List.mem_of_getElem? (i := 430) (by decide +kernel)) rfl
theorem ml_M_67 : Cond.methodLink "VersionDepotModel" 67 y_M_make ∈ vd_tbl := vd_mt (List.mem_of_getElem? (i := 434) (by decide +kernel)) rfl
theorem ml_M_46 : Cond.methodLink "VersionDepotModel" 46 y_M_copy ∈ vd_tbl := vd_mt (List.mem_of_getElem? (i := 438) (by decide +kernel)) rfl
theorem ml_L_31 : Cond.methodLink "VersionDepotLaw" 31 y_M_branch ∈ vd_tbl := vd_mt (List.mem_of_getElem? (i := 442) (by decide +kernel)) rfl
theorem ml_L_35 : Cond.methodLink "VersionDepotLaw" 35 y_M_turn ∈ vd_tbl := vd_mt (List.mem_of_getElem? (i := 446) (by decide +kernel)) rfl
theorem ml_M_71 : Cond.methodLink "VersionDepotModel" 71 y_M_tidy ∈ vd_tbl := vd_mt (List.mem_of_getElem? (i := 450) (by decide +kernel)) rfl
theorem ml_M_75 : Cond.methodLink "VersionDepotModel" 75 y_M_show ∈ vd_tbl := vd_mt (List.mem_of_getElem? (i := 454) (by decide +kernel)) rfl
theorem ml_L_39 : Cond.methodLink "VersionDepotLaw" 39 y_M_merge ∈ vd_tbl := vd_mt (List.mem_of_getElem? (i := 458) (by decide +kernel)) rfl
theorem ml_M_82 : Cond.methodLink "VersionDepotModel" 82 y_M_shared ∈ vd_tbl := vd_mt (List.mem_of_getElem? (i := 462) (by decide +kernel)) rfl
theorem ml_M_79 : Cond.methodLink "VersionDepotModel" 79 y_M_mark ∈ vd_tbl := vd_mt (List.mem_of_getElem? (i := 466) (by decide +kernel)) rfl
theorem ml_M_86 : Cond.methodLink "VersionDepotModel" 86 y_M_mix ∈ vd_tbl := vd_mt (List.mem_of_getElem? (i := 470) (by decide +kernel)) rfl
theorem ml_L_43 : Cond.methodLink "VersionDepotLaw" 43 y_M_abort ∈ vd_tbl := vd_mt (List.mem_of_getElem? (i := 474) (by decide +kernel)) rfl
theorem ml_L_47 : Cond.methodLink "VersionDepotLaw" 47 y_M_pick ∈ vd_tbl := vd_mt (List.mem_of_getElem? (i := 478) (by decide +kernel)) rfl
theorem ml_M_90 : Cond.methodLink "VersionDepotModel" 90 y_M_isStored ∈ vd_tbl := vd_mt (List.mem_of_getElem? (i := 482) (by decide +kernel)) rfl
theorem ml_L_51 : Cond.methodLink "VersionDepotLaw" 51 y_M_reset ∈ vd_tbl := vd_mt (List.mem_of_getElem? (i := 486) (by decide +kernel)) rfl
theorem ml_L_55 : Cond.methodLink "VersionDepotLaw" 55 y_M_remove ∈ vd_tbl := vd_mt (List.mem_of_getElem? (i := 490) (by decide +kernel)) rfl
theorem ml_L_59 : Cond.methodLink "VersionDepotLaw" 59 y_M_sweep ∈ vd_tbl := vd_mt (List.mem_of_getElem? (i := 494) (by decide +kernel)) rfl
theorem ml_M_98 : Cond.methodLink "VersionDepotModel" 98 y_M_objects ∈ vd_tbl := vd_mt (List.mem_of_getElem? (i := 498) (by decide +kernel)) rfl
theorem ml_M_94 : Cond.methodLink "VersionDepotModel" 94 y_M_count ∈ vd_tbl := vd_mt (List.mem_of_getElem? (i := 502) (by decide +kernel)) rfl
theorem ml_M_104 : Cond.methodLink "VersionDepotModel" 104 y_M_folders ∈ vd_tbl := vd_mt (List.mem_of_getElem? (i := 506) (by decide +kernel)) rfl
theorem ml_M_101 : Cond.methodLink "VersionDepotModel" 101 y_M_alike ∈ vd_tbl := vd_mt (List.mem_of_getElem? (i := 510) (by decide +kernel)) rfl
theorem ml_M_107 : Cond.methodLink "VersionDepotModel" 107 y_M_roots ∈ vd_tbl := vd_mt (List.mem_of_getElem? (i := 514) (by decide +kernel)) rfl
theorem ml_M_110 : Cond.methodLink "VersionDepotModel" 110 y_M_changed ∈ vd_tbl := vd_mt (List.mem_of_getElem? (i := 518) (by decide +kernel)) rfl
theorem ml_L_63 : Cond.methodLink "VersionDepotLaw" 63 y_M_content ∈ vd_tbl := vd_mt (List.mem_of_getElem? (i := 522) (by decide +kernel)) rfl
theorem ml_L_67 : Cond.methodLink "VersionDepotLaw" 67 y_M_at ∈ vd_tbl := vd_mt (List.mem_of_getElem? (i := 526) (by decide +kernel)) rfl
theorem ml_L_71 : Cond.methodLink "VersionDepotLaw" 71 y_M_parent ∈ vd_tbl := vd_mt (List.mem_of_getElem? (i := 530) (by decide +kernel)) rfl
theorem ml_L_75 : Cond.methodLink "VersionDepotLaw" 75 y_M_branchAt ∈ vd_tbl := vd_mt (List.mem_of_getElem? (i := 534) (by decide +kernel)) rfl
theorem ml_L_79 : Cond.methodLink "VersionDepotLaw" 79 y_M_common ∈ vd_tbl := vd_mt (List.mem_of_getElem? (i := 538) (by decide +kernel)) rfl
theorem ml_L_83 : Cond.methodLink "VersionDepotLaw" 83 y_M_differ ∈ vd_tbl := vd_mt (List.mem_of_getElem? (i := 542) (by decide +kernel)) rfl
theorem ml_L_88 : Cond.methodLink "VersionDepotLaw" 88 y_M_clashing ∈ vd_tbl := vd_mt (List.mem_of_getElem? (i := 546) (by decide +kernel)) rfl
theorem ml_L_92 : Cond.methodLink "VersionDepotLaw" 92 y_M_count ∈ vd_tbl := vd_mt (List.mem_of_getElem? (i := 550) (by decide +kernel)) rfl
theorem kc_J_314 : Cond.constantLong "java/lang/Long" 314 (lN 6148914691236517205) ∈ vd_tbl := vd_mt (List.mem_of_getElem? (i := 286) (by decide +kernel)) rfl
theorem kc_J_316 : Cond.constantLong "java/lang/Long" 316 (lN 3689348814741910323) ∈ vd_tbl := vd_mt (List.mem_of_getElem? (i := 287) (by decide +kernel)) rfl
theorem kc_J_318 : Cond.constantLong "java/lang/Long" 318 (lN 1085102592571150095) ∈ vd_tbl := vd_mt (List.mem_of_getElem? (i := 288) (by decide +kernel)) rfl
theorem kc_I_265 : Cond.constant "java/lang/Integer" 265 (nI 1431655765) ∈ vd_tbl := vd_mt (List.mem_of_getElem? (i := 300) (by decide +kernel)) rfl
theorem kc_I_266 : Cond.constant "java/lang/Integer" 266 (nI 858993459) ∈ vd_tbl := vd_mt (List.mem_of_getElem? (i := 301) (by decide +kernel)) rfl
theorem kc_I_267 : Cond.constant "java/lang/Integer" 267 (nI 252645135) ∈ vd_tbl := vd_mt (List.mem_of_getElem? (i := 302) (by decide +kernel)) rfl
end
section
theorem d_B_init_0 : decode c_B_init 0 = .ok (.aload_n 0, 1) := by decide +kernel
theorem d_B_init_1 : decode c_B_init 1 = .ok (.invokespecial 3, 3) := by decide +kernel
theorem d_B_init_4 : decode c_B_init 4 = .ok (.aload_n 0, 1) := by decide +kernel
theorem d_B_init_5 : decode c_B_init 5 = .ok (.sipush 157, 3) := by decide +kernel
theorem d_B_init_8 : decode c_B_init 8 = .ok (.newarray .long, 2) := by decide +kernel
theorem d_B_init_10 : decode c_B_init 10 = .ok (.putfield 11, 3) := by decide +kernel
theorem d_B_init_13 : decode c_B_init 13 = .ok (.return_, 1) := by decide +kernel
theorem d_B_keep_0 : decode c_B_keep 0 = .ok (.iload_n 1, 1) := by decide +kernel
theorem d_B_keep_1 : decode c_B_keep 1 = .ok (.ifCond .eq 21, 3) := by decide +kernel
theorem d_B_keep_4 : decode c_B_keep 4 = .ok (.aload_n 0, 1) := by decide +kernel
theorem d_B_keep_5 : decode c_B_keep 5 = .ok (.getfield 11, 3) := by decide +kernel
theorem d_B_keep_8 : decode c_B_keep 8 = .ok (.iload_n 1, 1) := by decide +kernel
theorem d_B_keep_9 : decode c_B_keep 9 = .ok (.bipush 64, 2) := by decide +kernel
theorem d_B_keep_11 : decode c_B_keep 11 = .ok (.idiv, 1) := by decide +kernel
theorem d_B_keep_12 : decode c_B_keep 12 = .ok (.dup2, 1) := by decide +kernel
theorem d_B_keep_13 : decode c_B_keep 13 = .ok (.laload, 1) := by decide +kernel
theorem d_B_keep_14 : decode c_B_keep 14 = .ok (.lconst 1, 1) := by decide +kernel
theorem d_B_keep_15 : decode c_B_keep 15 = .ok (.iload_n 1, 1) := by decide +kernel
theorem d_B_keep_16 : decode c_B_keep 16 = .ok (.bipush 64, 2) := by decide +kernel
theorem d_B_keep_18 : decode c_B_keep 18 = .ok (.irem, 1) := by decide +kernel
theorem d_B_keep_19 : decode c_B_keep 19 = .ok (.lshl, 1) := by decide +kernel
theorem d_B_keep_20 : decode c_B_keep 20 = .ok (.lor, 1) := by decide +kernel
theorem d_B_keep_21 : decode c_B_keep 21 = .ok (.lastore, 1) := by decide +kernel
theorem d_B_keep_22 : decode c_B_keep 22 = .ok (.return_, 1) := by decide +kernel
theorem d_B_clear_0 : decode c_B_clear 0 = .ok (.iconst 0, 1) := by decide +kernel
theorem d_B_clear_1 : decode c_B_clear 1 = .ok (.istore_n 1, 1) := by decide +kernel
theorem d_B_clear_2 : decode c_B_clear 2 = .ok (.iload_n 1, 1) := by decide +kernel
theorem d_B_clear_3 : decode c_B_clear 3 = .ok (.aload_n 0, 1) := by decide +kernel
theorem d_B_clear_4 : decode c_B_clear 4 = .ok (.getfield 11, 3) := by decide +kernel
theorem d_B_clear_7 : decode c_B_clear 7 = .ok (.arraylength, 1) := by decide +kernel
theorem d_B_clear_8 : decode c_B_clear 8 = .ok (.if_icmp .ge 16, 3) := by decide +kernel
theorem d_B_clear_11 : decode c_B_clear 11 = .ok (.aload_n 0, 1) := by decide +kernel
theorem d_B_clear_12 : decode c_B_clear 12 = .ok (.getfield 11, 3) := by decide +kernel
theorem d_B_clear_15 : decode c_B_clear 15 = .ok (.iload_n 1, 1) := by decide +kernel
theorem d_B_clear_16 : decode c_B_clear 16 = .ok (.lconst 0, 1) := by decide +kernel
theorem d_B_clear_17 : decode c_B_clear 17 = .ok (.lastore, 1) := by decide +kernel
theorem d_B_clear_18 : decode c_B_clear 18 = .ok (.iinc 1 1, 3) := by decide +kernel
theorem d_B_clear_21 : decode c_B_clear 21 = .ok (.goto (-19), 3) := by decide +kernel
theorem d_B_clear_24 : decode c_B_clear 24 = .ok (.return_, 1) := by decide +kernel
theorem d_B_size_0 : decode c_B_size 0 = .ok (.iconst 0, 1) := by decide +kernel
theorem d_B_size_1 : decode c_B_size 1 = .ok (.istore_n 1, 1) := by decide +kernel
theorem d_B_size_2 : decode c_B_size 2 = .ok (.iconst 0, 1) := by decide +kernel
theorem d_B_size_3 : decode c_B_size 3 = .ok (.istore_n 2, 1) := by decide +kernel
theorem d_B_size_4 : decode c_B_size 4 = .ok (.iload_n 2, 1) := by decide +kernel
theorem d_B_size_5 : decode c_B_size 5 = .ok (.aload_n 0, 1) := by decide +kernel
theorem d_B_size_6 : decode c_B_size 6 = .ok (.getfield 11, 3) := by decide +kernel
theorem d_B_size_9 : decode c_B_size 9 = .ok (.arraylength, 1) := by decide +kernel
theorem d_B_size_10 : decode c_B_size 10 = .ok (.if_icmp .ge 21, 3) := by decide +kernel
theorem d_B_size_13 : decode c_B_size 13 = .ok (.iload_n 1, 1) := by decide +kernel
theorem d_B_size_14 : decode c_B_size 14 = .ok (.aload_n 0, 1) := by decide +kernel
theorem d_B_size_15 : decode c_B_size 15 = .ok (.getfield 11, 3) := by decide +kernel
theorem d_B_size_18 : decode c_B_size 18 = .ok (.iload_n 2, 1) := by decide +kernel
theorem d_B_size_19 : decode c_B_size 19 = .ok (.laload, 1) := by decide +kernel
theorem d_B_size_20 : decode c_B_size 20 = .ok (.invokestatic 15, 3) := by decide +kernel
theorem d_B_size_23 : decode c_B_size 23 = .ok (.iadd, 1) := by decide +kernel
theorem d_B_size_24 : decode c_B_size 24 = .ok (.istore_n 1, 1) := by decide +kernel
theorem d_B_size_25 : decode c_B_size 25 = .ok (.iinc 2 1, 3) := by decide +kernel
theorem d_B_size_28 : decode c_B_size 28 = .ok (.goto (-24), 3) := by decide +kernel
theorem d_B_size_31 : decode c_B_size 31 = .ok (.iload_n 1, 1) := by decide +kernel
theorem d_B_size_32 : decode c_B_size 32 = .ok (.ireturn, 1) := by decide +kernel
theorem d_W_init_0 : decode c_W_init 0 = .ok (.aload_n 0, 1) := by decide +kernel
theorem d_W_init_1 : decode c_W_init 1 = .ok (.invokespecial 3, 3) := by decide +kernel
theorem d_W_init_4 : decode c_W_init 4 = .ok (.aload_n 0, 1) := by decide +kernel
theorem d_W_init_5 : decode c_W_init 5 = .ok (.iload_n 1, 1) := by decide +kernel
theorem d_W_init_6 : decode c_W_init 6 = .ok (.iconst 1, 1) := by decide +kernel
theorem d_W_init_7 : decode c_W_init 7 = .ok (.iadd, 1) := by decide +kernel
theorem d_W_init_8 : decode c_W_init 8 = .ok (.iconst 4, 1) := by decide +kernel
theorem d_W_init_9 : decode c_W_init 9 = .ok (.imul, 1) := by decide +kernel
theorem d_W_init_10 : decode c_W_init 10 = .ok (.newarray .int, 2) := by decide +kernel
theorem d_W_init_12 : decode c_W_init 12 = .ok (.putfield 9, 3) := by decide +kernel
theorem d_W_init_15 : decode c_W_init 15 = .ok (.aload_n 0, 1) := by decide +kernel
theorem d_W_init_16 : decode c_W_init 16 = .ok (.iload_n 1, 1) := by decide +kernel
theorem d_W_init_17 : decode c_W_init 17 = .ok (.iconst 1, 1) := by decide +kernel
theorem d_W_init_18 : decode c_W_init 18 = .ok (.iadd, 1) := by decide +kernel
theorem d_W_init_19 : decode c_W_init 19 = .ok (.newarray .boolean, 2) := by decide +kernel
theorem d_W_init_21 : decode c_W_init 21 = .ok (.putfield 15, 3) := by decide +kernel
theorem d_W_init_24 : decode c_W_init 24 = .ok (.return_, 1) := by decide +kernel
theorem d_W_get_0 : decode c_W_get 0 = .ok (.aload_n 0, 1) := by decide +kernel
theorem d_W_get_1 : decode c_W_get 1 = .ok (.getfield 9, 3) := by decide +kernel
theorem d_W_get_4 : decode c_W_get 4 = .ok (.iload_n 1, 1) := by decide +kernel
theorem d_W_get_5 : decode c_W_get 5 = .ok (.iconst 4, 1) := by decide +kernel
theorem d_W_get_6 : decode c_W_get 6 = .ok (.imul, 1) := by decide +kernel
theorem d_W_get_7 : decode c_W_get 7 = .ok (.iload_n 2, 1) := by decide +kernel
theorem d_W_get_8 : decode c_W_get 8 = .ok (.iadd, 1) := by decide +kernel
theorem d_W_get_9 : decode c_W_get 9 = .ok (.iaload, 1) := by decide +kernel
theorem d_W_get_10 : decode c_W_get 10 = .ok (.ireturn, 1) := by decide +kernel
theorem d_W_keep_0 : decode c_W_keep 0 = .ok (.iconst 1, 1) := by decide +kernel
theorem d_W_keep_1 : decode c_W_keep 1 = .ok (.istore_n 3, 1) := by decide +kernel
theorem d_W_keep_2 : decode c_W_keep 2 = .ok (.iload_n 3, 1) := by decide +kernel
theorem d_W_keep_3 : decode c_W_keep 3 = .ok (.aload_n 0, 1) := by decide +kernel
theorem d_W_keep_4 : decode c_W_keep 4 = .ok (.getfield 19, 3) := by decide +kernel
theorem d_W_keep_7 : decode c_W_keep 7 = .ok (.if_icmp .gt 19, 3) := by decide +kernel
theorem d_W_keep_10 : decode c_W_keep 10 = .ok (.aload_n 0, 1) := by decide +kernel
theorem d_W_keep_11 : decode c_W_keep 11 = .ok (.iload_n 3, 1) := by decide +kernel
theorem d_W_keep_12 : decode c_W_keep 12 = .ok (.aload_n 1, 1) := by decide +kernel
theorem d_W_keep_13 : decode c_W_keep 13 = .ok (.iload_n 2, 1) := by decide +kernel
theorem d_W_keep_14 : decode c_W_keep 14 = .ok (.invokevirtual 23, 3) := by decide +kernel
theorem d_W_keep_17 : decode c_W_keep 17 = .ok (.ifCond .ne 9, 3) := by decide +kernel
theorem d_W_keep_20 : decode c_W_keep 20 = .ok (.iinc 3 1, 3) := by decide +kernel
theorem d_W_keep_23 : decode c_W_keep 23 = .ok (.goto (-21), 3) := by decide +kernel
theorem d_W_keep_26 : decode c_W_keep 26 = .ok (.iload_n 3, 1) := by decide +kernel
theorem d_W_keep_27 : decode c_W_keep 27 = .ok (.aload_n 0, 1) := by decide +kernel
theorem d_W_keep_28 : decode c_W_keep 28 = .ok (.getfield 19, 3) := by decide +kernel
theorem d_W_keep_31 : decode c_W_keep 31 = .ok (.if_icmp .le 21, 3) := by decide +kernel
theorem d_W_keep_34 : decode c_W_keep 34 = .ok (.aload_n 1, 1) := by decide +kernel
theorem d_W_keep_35 : decode c_W_keep 35 = .ok (.iload_n 2, 1) := by decide +kernel
theorem d_W_keep_36 : decode c_W_keep 36 = .ok (.aload_n 0, 1) := by decide +kernel
theorem d_W_keep_37 : decode c_W_keep 37 = .ok (.getfield 9, 3) := by decide +kernel
theorem d_W_keep_40 : decode c_W_keep 40 = .ok (.iload_n 3, 1) := by decide +kernel
theorem d_W_keep_41 : decode c_W_keep 41 = .ok (.iconst 4, 1) := by decide +kernel
theorem d_W_keep_42 : decode c_W_keep 42 = .ok (.imul, 1) := by decide +kernel
theorem d_W_keep_43 : decode c_W_keep 43 = .ok (.iconst 4, 1) := by decide +kernel
theorem d_W_keep_44 : decode c_W_keep 44 = .ok (.invokestatic 27, 3) := by decide +kernel
theorem d_W_keep_47 : decode c_W_keep 47 = .ok (.aload_n 0, 1) := by decide +kernel
theorem d_W_keep_48 : decode c_W_keep 48 = .ok (.iload_n 3, 1) := by decide +kernel
theorem d_W_keep_49 : decode c_W_keep 49 = .ok (.putfield 19, 3) := by decide +kernel
theorem d_W_keep_52 : decode c_W_keep 52 = .ok (.aload_n 0, 1) := by decide +kernel
theorem d_W_keep_53 : decode c_W_keep 53 = .ok (.getfield 15, 3) := by decide +kernel
theorem d_W_keep_56 : decode c_W_keep 56 = .ok (.iload_n 3, 1) := by decide +kernel
theorem d_W_keep_57 : decode c_W_keep 57 = .ok (.iconst 1, 1) := by decide +kernel
theorem d_W_keep_58 : decode c_W_keep 58 = .ok (.bastore, 1) := by decide +kernel
theorem d_W_keep_59 : decode c_W_keep 59 = .ok (.iload_n 3, 1) := by decide +kernel
theorem d_W_keep_60 : decode c_W_keep 60 = .ok (.ireturn, 1) := by decide +kernel
theorem d_W_isAlike_0 : decode c_W_isAlike 0 = .ok (.iconst 0, 1) := by decide +kernel
theorem d_W_isAlike_1 : decode c_W_isAlike 1 = .ok (.istore 4, 2) := by decide +kernel
theorem d_W_isAlike_3 : decode c_W_isAlike 3 = .ok (.iload 4, 2) := by decide +kernel
theorem d_W_isAlike_5 : decode c_W_isAlike 5 = .ok (.iconst 4, 1) := by decide +kernel
theorem d_W_isAlike_6 : decode c_W_isAlike 6 = .ok (.if_icmp .ge 31, 3) := by decide +kernel
theorem d_W_isAlike_9 : decode c_W_isAlike 9 = .ok (.aload_n 0, 1) := by decide +kernel
theorem d_W_isAlike_10 : decode c_W_isAlike 10 = .ok (.getfield 9, 3) := by decide +kernel
theorem d_W_isAlike_13 : decode c_W_isAlike 13 = .ok (.iload_n 1, 1) := by decide +kernel
theorem d_W_isAlike_14 : decode c_W_isAlike 14 = .ok (.iconst 4, 1) := by decide +kernel
theorem d_W_isAlike_15 : decode c_W_isAlike 15 = .ok (.imul, 1) := by decide +kernel
theorem d_W_isAlike_16 : decode c_W_isAlike 16 = .ok (.iload 4, 2) := by decide +kernel
theorem d_W_isAlike_18 : decode c_W_isAlike 18 = .ok (.iadd, 1) := by decide +kernel
theorem d_W_isAlike_19 : decode c_W_isAlike 19 = .ok (.iaload, 1) := by decide +kernel
theorem d_W_isAlike_20 : decode c_W_isAlike 20 = .ok (.aload_n 2, 1) := by decide +kernel
theorem d_W_isAlike_21 : decode c_W_isAlike 21 = .ok (.iload_n 3, 1) := by decide +kernel
theorem d_W_isAlike_22 : decode c_W_isAlike 22 = .ok (.iload 4, 2) := by decide +kernel
theorem d_W_isAlike_24 : decode c_W_isAlike 24 = .ok (.iadd, 1) := by decide +kernel
theorem d_W_isAlike_25 : decode c_W_isAlike 25 = .ok (.iaload, 1) := by decide +kernel
theorem d_W_isAlike_26 : decode c_W_isAlike 26 = .ok (.if_icmp .eq 5, 3) := by decide +kernel
theorem d_W_isAlike_29 : decode c_W_isAlike 29 = .ok (.iconst 0, 1) := by decide +kernel
theorem d_W_isAlike_30 : decode c_W_isAlike 30 = .ok (.ireturn, 1) := by decide +kernel
theorem d_W_isAlike_31 : decode c_W_isAlike 31 = .ok (.iinc 4 1, 3) := by decide +kernel
theorem d_W_isAlike_34 : decode c_W_isAlike 34 = .ok (.goto (-31), 3) := by decide +kernel
theorem d_W_isAlike_37 : decode c_W_isAlike 37 = .ok (.iconst 1, 1) := by decide +kernel
theorem d_W_isAlike_38 : decode c_W_isAlike 38 = .ok (.ireturn, 1) := by decide +kernel
theorem d_W_keepAgain_0 : decode c_W_keepAgain 0 = .ok (.aload_n 0, 1) := by decide +kernel
theorem d_W_keepAgain_1 : decode c_W_keepAgain 1 = .ok (.getfield 15, 3) := by decide +kernel
theorem d_W_keepAgain_4 : decode c_W_keepAgain 4 = .ok (.iload_n 1, 1) := by decide +kernel
theorem d_W_keepAgain_5 : decode c_W_keepAgain 5 = .ok (.iconst 1, 1) := by decide +kernel
theorem d_W_keepAgain_6 : decode c_W_keepAgain 6 = .ok (.bastore, 1) := by decide +kernel
theorem d_W_keepAgain_7 : decode c_W_keepAgain 7 = .ok (.return_, 1) := by decide +kernel
theorem d_W_clear_0 : decode c_W_clear 0 = .ok (.iconst 0, 1) := by decide +kernel
theorem d_W_clear_1 : decode c_W_clear 1 = .ok (.istore_n 1, 1) := by decide +kernel
theorem d_W_clear_2 : decode c_W_clear 2 = .ok (.iload_n 1, 1) := by decide +kernel
theorem d_W_clear_3 : decode c_W_clear 3 = .ok (.aload_n 0, 1) := by decide +kernel
theorem d_W_clear_4 : decode c_W_clear 4 = .ok (.getfield 15, 3) := by decide +kernel
theorem d_W_clear_7 : decode c_W_clear 7 = .ok (.arraylength, 1) := by decide +kernel
theorem d_W_clear_8 : decode c_W_clear 8 = .ok (.if_icmp .ge 16, 3) := by decide +kernel
theorem d_W_clear_11 : decode c_W_clear 11 = .ok (.aload_n 0, 1) := by decide +kernel
theorem d_W_clear_12 : decode c_W_clear 12 = .ok (.getfield 15, 3) := by decide +kernel
theorem d_W_clear_15 : decode c_W_clear 15 = .ok (.iload_n 1, 1) := by decide +kernel
theorem d_W_clear_16 : decode c_W_clear 16 = .ok (.iconst 0, 1) := by decide +kernel
theorem d_W_clear_17 : decode c_W_clear 17 = .ok (.bastore, 1) := by decide +kernel
theorem d_W_clear_18 : decode c_W_clear 18 = .ok (.iinc 1 1, 3) := by decide +kernel
theorem d_W_clear_21 : decode c_W_clear 21 = .ok (.goto (-19), 3) := by decide +kernel
theorem d_W_clear_24 : decode c_W_clear 24 = .ok (.return_, 1) := by decide +kernel
theorem d_W_size_0 : decode c_W_size 0 = .ok (.iconst 0, 1) := by decide +kernel
theorem d_W_size_1 : decode c_W_size 1 = .ok (.istore_n 1, 1) := by decide +kernel
theorem d_W_size_2 : decode c_W_size 2 = .ok (.iconst 1, 1) := by decide +kernel
theorem d_W_size_3 : decode c_W_size 3 = .ok (.istore_n 2, 1) := by decide +kernel
theorem d_W_size_4 : decode c_W_size 4 = .ok (.iload_n 2, 1) := by decide +kernel
theorem d_W_size_5 : decode c_W_size 5 = .ok (.aload_n 0, 1) := by decide +kernel
theorem d_W_size_6 : decode c_W_size 6 = .ok (.getfield 19, 3) := by decide +kernel
theorem d_W_size_9 : decode c_W_size 9 = .ok (.if_icmp .gt 21, 3) := by decide +kernel
theorem d_W_size_12 : decode c_W_size 12 = .ok (.aload_n 0, 1) := by decide +kernel
theorem d_W_size_13 : decode c_W_size 13 = .ok (.getfield 15, 3) := by decide +kernel
theorem d_W_size_16 : decode c_W_size 16 = .ok (.iload_n 2, 1) := by decide +kernel
theorem d_W_size_17 : decode c_W_size 17 = .ok (.baload, 1) := by decide +kernel
theorem d_W_size_18 : decode c_W_size 18 = .ok (.ifCond .eq 6, 3) := by decide +kernel
theorem d_W_size_21 : decode c_W_size 21 = .ok (.iinc 1 1, 3) := by decide +kernel
theorem d_W_size_24 : decode c_W_size 24 = .ok (.iinc 2 1, 3) := by decide +kernel
theorem d_W_size_27 : decode c_W_size 27 = .ok (.goto (-23), 3) := by decide +kernel
theorem d_W_size_30 : decode c_W_size 30 = .ok (.iload_n 1, 1) := by decide +kernel
theorem d_W_size_31 : decode c_W_size 31 = .ok (.ireturn, 1) := by decide +kernel
theorem d_S_init_0 : decode c_S_init 0 = .ok (.aload_n 0, 1) := by decide +kernel
theorem d_S_init_1 : decode c_S_init 1 = .ok (.invokespecial 3, 3) := by decide +kernel
theorem d_S_init_4 : decode c_S_init 4 = .ok (.aload_n 0, 1) := by decide +kernel
theorem d_S_init_5 : decode c_S_init 5 = .ok (.new 9, 3) := by decide +kernel
theorem d_S_init_8 : decode c_S_init 8 = .ok (.dup, 1) := by decide +kernel
theorem d_S_init_9 : decode c_S_init 9 = .ok (.invokespecial 11, 3) := by decide +kernel
theorem d_S_init_12 : decode c_S_init 12 = .ok (.putfield 12, 3) := by decide +kernel
theorem d_S_init_15 : decode c_S_init 15 = .ok (.aload_n 0, 1) := by decide +kernel
theorem d_S_init_16 : decode c_S_init 16 = .ok (.new 18, 3) := by decide +kernel
theorem d_S_init_19 : decode c_S_init 19 = .ok (.dup, 1) := by decide +kernel
theorem d_S_init_20 : decode c_S_init 20 = .ok (.bipush 120, 2) := by decide +kernel
theorem d_S_init_22 : decode c_S_init 22 = .ok (.invokespecial 20, 3) := by decide +kernel
theorem d_S_init_25 : decode c_S_init 25 = .ok (.putfield 23, 3) := by decide +kernel
theorem d_S_init_28 : decode c_S_init 28 = .ok (.aload_n 0, 1) := by decide +kernel
theorem d_S_init_29 : decode c_S_init 29 = .ok (.new 18, 3) := by decide +kernel
theorem d_S_init_32 : decode c_S_init 32 = .ok (.dup, 1) := by decide +kernel
theorem d_S_init_33 : decode c_S_init 33 = .ok (.bipush 30, 2) := by decide +kernel
theorem d_S_init_35 : decode c_S_init 35 = .ok (.invokespecial 20, 3) := by decide +kernel
theorem d_S_init_38 : decode c_S_init 38 = .ok (.putfield 27, 3) := by decide +kernel
theorem d_S_init_41 : decode c_S_init 41 = .ok (.aload_n 0, 1) := by decide +kernel
theorem d_S_init_42 : decode c_S_init 42 = .ok (.bipush 31, 2) := by decide +kernel
theorem d_S_init_44 : decode c_S_init 44 = .ok (.newarray .int, 2) := by decide +kernel
theorem d_S_init_46 : decode c_S_init 46 = .ok (.putfield 30, 3) := by decide +kernel
theorem d_S_init_49 : decode c_S_init 49 = .ok (.aload_n 0, 1) := by decide +kernel
theorem d_S_init_50 : decode c_S_init 50 = .ok (.bipush 31, 2) := by decide +kernel
theorem d_S_init_52 : decode c_S_init 52 = .ok (.newarray .int, 2) := by decide +kernel
theorem d_S_init_54 : decode c_S_init 54 = .ok (.putfield 34, 3) := by decide +kernel
theorem d_S_init_57 : decode c_S_init 57 = .ok (.aload_n 0, 1) := by decide +kernel
theorem d_S_init_58 : decode c_S_init 58 = .ok (.bipush 31, 2) := by decide +kernel
theorem d_S_init_60 : decode c_S_init 60 = .ok (.newarray .int, 2) := by decide +kernel
theorem d_S_init_62 : decode c_S_init 62 = .ok (.putfield 37, 3) := by decide +kernel
theorem d_S_init_65 : decode c_S_init 65 = .ok (.aload_n 0, 1) := by decide +kernel
theorem d_S_init_66 : decode c_S_init 66 = .ok (.bipush 31, 2) := by decide +kernel
theorem d_S_init_68 : decode c_S_init 68 = .ok (.newarray .int, 2) := by decide +kernel
theorem d_S_init_70 : decode c_S_init 70 = .ok (.putfield 40, 3) := by decide +kernel
theorem d_S_init_73 : decode c_S_init 73 = .ok (.aload_n 0, 1) := by decide +kernel
theorem d_S_init_74 : decode c_S_init 74 = .ok (.iconst 4, 1) := by decide +kernel
theorem d_S_init_75 : decode c_S_init 75 = .ok (.newarray .int, 2) := by decide +kernel
theorem d_S_init_77 : decode c_S_init 77 = .ok (.putfield 43, 3) := by decide +kernel
theorem d_S_init_80 : decode c_S_init 80 = .ok (.return_, 1) := by decide +kernel
theorem d_S_isFull_0 : decode c_S_isFull 0 = .ok (.aload_n 0, 1) := by decide +kernel
theorem d_S_isFull_1 : decode c_S_isFull 1 = .ok (.getfield 46, 3) := by decide +kernel
theorem d_S_isFull_4 : decode c_S_isFull 4 = .ok (.bipush 30, 2) := by decide +kernel
theorem d_S_isFull_6 : decode c_S_isFull 6 = .ok (.if_icmp .lt 7, 3) := by decide +kernel
theorem d_S_isFull_9 : decode c_S_isFull 9 = .ok (.iconst 1, 1) := by decide +kernel
theorem d_S_isFull_10 : decode c_S_isFull 10 = .ok (.goto 4, 3) := by decide +kernel
theorem d_S_isFull_13 : decode c_S_isFull 13 = .ok (.iconst 0, 1) := by decide +kernel
theorem d_S_isFull_14 : decode c_S_isFull 14 = .ok (.ireturn, 1) := by decide +kernel
theorem d_S_holds_0 : decode c_S_holds 0 = .ok (.iload_n 1, 1) := by decide +kernel
theorem d_S_holds_1 : decode c_S_holds 1 = .ok (.iconst 1, 1) := by decide +kernel
theorem d_S_holds_2 : decode c_S_holds 2 = .ok (.if_icmp .lt 24, 3) := by decide +kernel
theorem d_S_holds_5 : decode c_S_holds 5 = .ok (.iload_n 1, 1) := by decide +kernel
theorem d_S_holds_6 : decode c_S_holds 6 = .ok (.bipush 30, 2) := by decide +kernel
theorem d_S_holds_8 : decode c_S_holds 8 = .ok (.if_icmp .gt 18, 3) := by decide +kernel
theorem d_S_holds_11 : decode c_S_holds 11 = .ok (.aload_n 0, 1) := by decide +kernel
theorem d_S_holds_12 : decode c_S_holds 12 = .ok (.getfield 50, 3) := by decide +kernel
theorem d_S_holds_15 : decode c_S_holds 15 = .ok (.iconst 1, 1) := by decide +kernel
theorem d_S_holds_16 : decode c_S_holds 16 = .ok (.iload_n 1, 1) := by decide +kernel
theorem d_S_holds_17 : decode c_S_holds 17 = .ok (.ishl, 1) := by decide +kernel
theorem d_S_holds_18 : decode c_S_holds 18 = .ok (.iand, 1) := by decide +kernel
theorem d_S_holds_19 : decode c_S_holds 19 = .ok (.ifCond .eq 7, 3) := by decide +kernel
theorem d_S_holds_22 : decode c_S_holds 22 = .ok (.iconst 1, 1) := by decide +kernel
theorem d_S_holds_23 : decode c_S_holds 23 = .ok (.goto 4, 3) := by decide +kernel
theorem d_S_holds_26 : decode c_S_holds 26 = .ok (.iconst 0, 1) := by decide +kernel
theorem d_S_holds_27 : decode c_S_holds 27 = .ok (.ireturn, 1) := by decide +kernel
theorem d_S_commits_0 : decode c_S_commits 0 = .ok (.aload_n 0, 1) := by decide +kernel
theorem d_S_commits_1 : decode c_S_commits 1 = .ok (.getfield 50, 3) := by decide +kernel
theorem d_S_commits_4 : decode c_S_commits 4 = .ok (.invokestatic 53, 3) := by decide +kernel
theorem d_S_commits_7 : decode c_S_commits 7 = .ok (.ireturn, 1) := by decide +kernel
theorem d_S_size_0 : decode c_S_size 0 = .ok (.aload_n 0, 1) := by decide +kernel
theorem d_S_size_1 : decode c_S_size 1 = .ok (.getfield 12, 3) := by decide +kernel
theorem d_S_size_4 : decode c_S_size 4 = .ok (.invokevirtual 59, 3) := by decide +kernel
theorem d_S_size_7 : decode c_S_size 7 = .ok (.aload_n 0, 1) := by decide +kernel
theorem d_S_size_8 : decode c_S_size 8 = .ok (.getfield 23, 3) := by decide +kernel
theorem d_S_size_11 : decode c_S_size 11 = .ok (.invokevirtual 63, 3) := by decide +kernel
theorem d_S_size_14 : decode c_S_size 14 = .ok (.iadd, 1) := by decide +kernel
theorem d_S_size_15 : decode c_S_size 15 = .ok (.aload_n 0, 1) := by decide +kernel
theorem d_S_size_16 : decode c_S_size 16 = .ok (.getfield 27, 3) := by decide +kernel
theorem d_S_size_19 : decode c_S_size 19 = .ok (.invokevirtual 63, 3) := by decide +kernel
theorem d_S_size_22 : decode c_S_size 22 = .ok (.iadd, 1) := by decide +kernel
theorem d_S_size_23 : decode c_S_size 23 = .ok (.aload_n 0, 1) := by decide +kernel
theorem d_S_size_24 : decode c_S_size 24 = .ok (.invokevirtual 64, 3) := by decide +kernel
theorem d_S_size_27 : decode c_S_size 27 = .ok (.iadd, 1) := by decide +kernel
theorem d_S_size_28 : decode c_S_size 28 = .ok (.ireturn, 1) := by decide +kernel
theorem d_S_contentOf_0 : decode c_S_contentOf 0 = .ok (.aload_n 0, 1) := by decide +kernel
theorem d_S_contentOf_1 : decode c_S_contentOf 1 = .ok (.getfield 23, 3) := by decide +kernel
theorem d_S_contentOf_4 : decode c_S_contentOf 4 = .ok (.aload_n 0, 1) := by decide +kernel
theorem d_S_contentOf_5 : decode c_S_contentOf 5 = .ok (.getfield 27, 3) := by decide +kernel
theorem d_S_contentOf_8 : decode c_S_contentOf 8 = .ok (.aload_n 0, 1) := by decide +kernel
theorem d_S_contentOf_9 : decode c_S_contentOf 9 = .ok (.getfield 30, 3) := by decide +kernel
theorem d_S_contentOf_12 : decode c_S_contentOf 12 = .ok (.iload_n 1, 1) := by decide +kernel
theorem d_S_contentOf_13 : decode c_S_contentOf 13 = .ok (.iaload, 1) := by decide +kernel
theorem d_S_contentOf_14 : decode c_S_contentOf 14 = .ok (.iload_n 2, 1) := by decide +kernel
theorem d_S_contentOf_15 : decode c_S_contentOf 15 = .ok (.iconst 4, 1) := by decide +kernel
theorem d_S_contentOf_16 : decode c_S_contentOf 16 = .ok (.idiv, 1) := by decide +kernel
theorem d_S_contentOf_17 : decode c_S_contentOf 17 = .ok (.invokevirtual 67, 3) := by decide +kernel
theorem d_S_contentOf_20 : decode c_S_contentOf 20 = .ok (.iload_n 2, 1) := by decide +kernel
theorem d_S_contentOf_21 : decode c_S_contentOf 21 = .ok (.iconst 4, 1) := by decide +kernel
theorem d_S_contentOf_22 : decode c_S_contentOf 22 = .ok (.irem, 1) := by decide +kernel
theorem d_S_contentOf_23 : decode c_S_contentOf 23 = .ok (.invokevirtual 67, 3) := by decide +kernel
theorem d_S_contentOf_26 : decode c_S_contentOf 26 = .ok (.ireturn, 1) := by decide +kernel
theorem d_S_parentOf_0 : decode c_S_parentOf 0 = .ok (.iload_n 2, 1) := by decide +kernel
theorem d_S_parentOf_1 : decode c_S_parentOf 1 = .ok (.ifCond .ne 12, 3) := by decide +kernel
theorem d_S_parentOf_4 : decode c_S_parentOf 4 = .ok (.aload_n 0, 1) := by decide +kernel
theorem d_S_parentOf_5 : decode c_S_parentOf 5 = .ok (.getfield 34, 3) := by decide +kernel
theorem d_S_parentOf_8 : decode c_S_parentOf 8 = .ok (.iload_n 1, 1) := by decide +kernel
theorem d_S_parentOf_9 : decode c_S_parentOf 9 = .ok (.iaload, 1) := by decide +kernel
theorem d_S_parentOf_10 : decode c_S_parentOf 10 = .ok (.goto 9, 3) := by decide +kernel
theorem d_S_parentOf_13 : decode c_S_parentOf 13 = .ok (.aload_n 0, 1) := by decide +kernel
theorem d_S_parentOf_14 : decode c_S_parentOf 14 = .ok (.getfield 37, 3) := by decide +kernel
theorem d_S_parentOf_17 : decode c_S_parentOf 17 = .ok (.iload_n 1, 1) := by decide +kernel
theorem d_S_parentOf_18 : decode c_S_parentOf 18 = .ok (.iaload, 1) := by decide +kernel
theorem d_S_parentOf_19 : decode c_S_parentOf 19 = .ok (.ireturn, 1) := by decide +kernel
theorem d_S_ancestorsOf_0 : decode c_S_ancestorsOf 0 = .ok (.aload_n 0, 1) := by decide +kernel
theorem d_S_ancestorsOf_1 : decode c_S_ancestorsOf 1 = .ok (.getfield 40, 3) := by decide +kernel
theorem d_S_ancestorsOf_4 : decode c_S_ancestorsOf 4 = .ok (.iload_n 1, 1) := by decide +kernel
theorem d_S_ancestorsOf_5 : decode c_S_ancestorsOf 5 = .ok (.iaload, 1) := by decide +kernel
theorem d_S_ancestorsOf_6 : decode c_S_ancestorsOf 6 = .ok (.ireturn, 1) := by decide +kernel
theorem d_S_leadsTo_0 : decode c_S_leadsTo 0 = .ok (.aload_n 0, 1) := by decide +kernel
theorem d_S_leadsTo_1 : decode c_S_leadsTo 1 = .ok (.getfield 40, 3) := by decide +kernel
theorem d_S_leadsTo_4 : decode c_S_leadsTo 4 = .ok (.iload_n 1, 1) := by decide +kernel
theorem d_S_leadsTo_5 : decode c_S_leadsTo 5 = .ok (.iaload, 1) := by decide +kernel
theorem d_S_leadsTo_6 : decode c_S_leadsTo 6 = .ok (.iconst 1, 1) := by decide +kernel
theorem d_S_leadsTo_7 : decode c_S_leadsTo 7 = .ok (.iload_n 2, 1) := by decide +kernel
theorem d_S_leadsTo_8 : decode c_S_leadsTo 8 = .ok (.ishl, 1) := by decide +kernel
theorem d_S_leadsTo_9 : decode c_S_leadsTo 9 = .ok (.iand, 1) := by decide +kernel
theorem d_S_leadsTo_10 : decode c_S_leadsTo 10 = .ok (.ifCond .eq 7, 3) := by decide +kernel
theorem d_S_leadsTo_13 : decode c_S_leadsTo 13 = .ok (.iconst 1, 1) := by decide +kernel
theorem d_S_leadsTo_14 : decode c_S_leadsTo 14 = .ok (.goto 4, 3) := by decide +kernel
theorem d_S_leadsTo_17 : decode c_S_leadsTo 17 = .ok (.iconst 0, 1) := by decide +kernel
theorem d_S_leadsTo_18 : decode c_S_leadsTo 18 = .ok (.ireturn, 1) := by decide +kernel
theorem d_S_meetingOf_0 : decode c_S_meetingOf 0 = .ok (.aload_n 0, 1) := by decide +kernel
theorem d_S_meetingOf_1 : decode c_S_meetingOf 1 = .ok (.getfield 40, 3) := by decide +kernel
theorem d_S_meetingOf_4 : decode c_S_meetingOf 4 = .ok (.iload_n 1, 1) := by decide +kernel
theorem d_S_meetingOf_5 : decode c_S_meetingOf 5 = .ok (.iaload, 1) := by decide +kernel
theorem d_S_meetingOf_6 : decode c_S_meetingOf 6 = .ok (.aload_n 0, 1) := by decide +kernel
theorem d_S_meetingOf_7 : decode c_S_meetingOf 7 = .ok (.getfield 40, 3) := by decide +kernel
theorem d_S_meetingOf_10 : decode c_S_meetingOf 10 = .ok (.iload_n 2, 1) := by decide +kernel
theorem d_S_meetingOf_11 : decode c_S_meetingOf 11 = .ok (.iaload, 1) := by decide +kernel
theorem d_S_meetingOf_12 : decode c_S_meetingOf 12 = .ok (.iand, 1) := by decide +kernel
theorem d_S_meetingOf_13 : decode c_S_meetingOf 13 = .ok (.istore_n 3, 1) := by decide +kernel
theorem d_S_meetingOf_14 : decode c_S_meetingOf 14 = .ok (.bipush 30, 2) := by decide +kernel
theorem d_S_meetingOf_16 : decode c_S_meetingOf 16 = .ok (.istore 4, 2) := by decide +kernel
theorem d_S_meetingOf_18 : decode c_S_meetingOf 18 = .ok (.iload 4, 2) := by decide +kernel
theorem d_S_meetingOf_20 : decode c_S_meetingOf 20 = .ok (.ifCond .le 18, 3) := by decide +kernel
theorem d_S_meetingOf_23 : decode c_S_meetingOf 23 = .ok (.iload_n 3, 1) := by decide +kernel
theorem d_S_meetingOf_24 : decode c_S_meetingOf 24 = .ok (.iconst 1, 1) := by decide +kernel
theorem d_S_meetingOf_25 : decode c_S_meetingOf 25 = .ok (.iload 4, 2) := by decide +kernel
theorem d_S_meetingOf_27 : decode c_S_meetingOf 27 = .ok (.ishl, 1) := by decide +kernel
theorem d_S_meetingOf_28 : decode c_S_meetingOf 28 = .ok (.iand, 1) := by decide +kernel
theorem d_S_meetingOf_29 : decode c_S_meetingOf 29 = .ok (.ifCond .ne 9, 3) := by decide +kernel
theorem d_S_meetingOf_32 : decode c_S_meetingOf 32 = .ok (.iinc 4 (-1), 3) := by decide +kernel
theorem d_S_meetingOf_35 : decode c_S_meetingOf 35 = .ok (.goto (-17), 3) := by decide +kernel
theorem d_S_meetingOf_38 : decode c_S_meetingOf 38 = .ok (.iload 4, 2) := by decide +kernel
theorem d_S_meetingOf_40 : decode c_S_meetingOf 40 = .ok (.ireturn, 1) := by decide +kernel
theorem d_S_make_0 : decode c_S_make 0 = .ok (.aload_n 0, 1) := by decide +kernel
theorem d_S_make_1 : decode c_S_make 1 = .ok (.dup, 1) := by decide +kernel
theorem d_S_make_2 : decode c_S_make 2 = .ok (.getfield 46, 3) := by decide +kernel
theorem d_S_make_5 : decode c_S_make 5 = .ok (.iconst 1, 1) := by decide +kernel
theorem d_S_make_6 : decode c_S_make 6 = .ok (.iadd, 1) := by decide +kernel
theorem d_S_make_7 : decode c_S_make 7 = .ok (.putfield 46, 3) := by decide +kernel
theorem d_S_make_10 : decode c_S_make 10 = .ok (.aload_n 0, 1) := by decide +kernel
theorem d_S_make_11 : decode c_S_make 11 = .ok (.getfield 30, 3) := by decide +kernel
theorem d_S_make_14 : decode c_S_make 14 = .ok (.aload_n 0, 1) := by decide +kernel
theorem d_S_make_15 : decode c_S_make 15 = .ok (.getfield 46, 3) := by decide +kernel
theorem d_S_make_18 : decode c_S_make 18 = .ok (.aload_n 0, 1) := by decide +kernel
theorem d_S_make_19 : decode c_S_make 19 = .ok (.aload_n 1, 1) := by decide +kernel
theorem d_S_make_20 : decode c_S_make 20 = .ok (.invokevirtual 71, 3) := by decide +kernel
theorem d_S_make_23 : decode c_S_make 23 = .ok (.iastore, 1) := by decide +kernel
theorem d_S_make_24 : decode c_S_make 24 = .ok (.aload_n 0, 1) := by decide +kernel
theorem d_S_make_25 : decode c_S_make 25 = .ok (.getfield 34, 3) := by decide +kernel
theorem d_S_make_28 : decode c_S_make 28 = .ok (.aload_n 0, 1) := by decide +kernel
theorem d_S_make_29 : decode c_S_make 29 = .ok (.getfield 46, 3) := by decide +kernel
theorem d_S_make_32 : decode c_S_make 32 = .ok (.iload_n 2, 1) := by decide +kernel
theorem d_S_make_33 : decode c_S_make 33 = .ok (.iastore, 1) := by decide +kernel
theorem d_S_make_34 : decode c_S_make 34 = .ok (.aload_n 0, 1) := by decide +kernel
theorem d_S_make_35 : decode c_S_make 35 = .ok (.getfield 37, 3) := by decide +kernel
theorem d_S_make_38 : decode c_S_make 38 = .ok (.aload_n 0, 1) := by decide +kernel
theorem d_S_make_39 : decode c_S_make 39 = .ok (.getfield 46, 3) := by decide +kernel
theorem d_S_make_42 : decode c_S_make 42 = .ok (.iload_n 3, 1) := by decide +kernel
theorem d_S_make_43 : decode c_S_make 43 = .ok (.iastore, 1) := by decide +kernel
theorem d_S_make_44 : decode c_S_make 44 = .ok (.aload_n 0, 1) := by decide +kernel
theorem d_S_make_45 : decode c_S_make 45 = .ok (.getfield 40, 3) := by decide +kernel
theorem d_S_make_48 : decode c_S_make 48 = .ok (.aload_n 0, 1) := by decide +kernel
theorem d_S_make_49 : decode c_S_make 49 = .ok (.getfield 46, 3) := by decide +kernel
theorem d_S_make_52 : decode c_S_make 52 = .ok (.iconst 1, 1) := by decide +kernel
theorem d_S_make_53 : decode c_S_make 53 = .ok (.aload_n 0, 1) := by decide +kernel
theorem d_S_make_54 : decode c_S_make 54 = .ok (.getfield 46, 3) := by decide +kernel
theorem d_S_make_57 : decode c_S_make 57 = .ok (.ishl, 1) := by decide +kernel
theorem d_S_make_58 : decode c_S_make 58 = .ok (.aload_n 0, 1) := by decide +kernel
theorem d_S_make_59 : decode c_S_make 59 = .ok (.getfield 40, 3) := by decide +kernel
theorem d_S_make_62 : decode c_S_make 62 = .ok (.iload_n 2, 1) := by decide +kernel
theorem d_S_make_63 : decode c_S_make 63 = .ok (.iaload, 1) := by decide +kernel
theorem d_S_make_64 : decode c_S_make 64 = .ok (.ior, 1) := by decide +kernel
theorem d_S_make_65 : decode c_S_make 65 = .ok (.aload_n 0, 1) := by decide +kernel
theorem d_S_make_66 : decode c_S_make 66 = .ok (.getfield 40, 3) := by decide +kernel
theorem d_S_make_69 : decode c_S_make 69 = .ok (.iload_n 3, 1) := by decide +kernel
theorem d_S_make_70 : decode c_S_make 70 = .ok (.iaload, 1) := by decide +kernel
theorem d_S_make_71 : decode c_S_make 71 = .ok (.ior, 1) := by decide +kernel
theorem d_S_make_72 : decode c_S_make 72 = .ok (.iastore, 1) := by decide +kernel
theorem d_S_make_73 : decode c_S_make 73 = .ok (.aload_n 0, 1) := by decide +kernel
theorem d_S_make_74 : decode c_S_make 74 = .ok (.dup, 1) := by decide +kernel
theorem d_S_make_75 : decode c_S_make 75 = .ok (.getfield 50, 3) := by decide +kernel
theorem d_S_make_78 : decode c_S_make 78 = .ok (.iconst 1, 1) := by decide +kernel
theorem d_S_make_79 : decode c_S_make 79 = .ok (.aload_n 0, 1) := by decide +kernel
theorem d_S_make_80 : decode c_S_make 80 = .ok (.getfield 46, 3) := by decide +kernel
theorem d_S_make_83 : decode c_S_make 83 = .ok (.ishl, 1) := by decide +kernel
theorem d_S_make_84 : decode c_S_make 84 = .ok (.ior, 1) := by decide +kernel
theorem d_S_make_85 : decode c_S_make 85 = .ok (.putfield 50, 3) := by decide +kernel
theorem d_S_make_88 : decode c_S_make 88 = .ok (.aload_n 0, 1) := by decide +kernel
theorem d_S_make_89 : decode c_S_make 89 = .ok (.getfield 46, 3) := by decide +kernel
theorem d_S_make_92 : decode c_S_make 92 = .ok (.ireturn, 1) := by decide +kernel
theorem d_S_keepRoot_0 : decode c_S_keepRoot 0 = .ok (.iconst 0, 1) := by decide +kernel
theorem d_S_keepRoot_1 : decode c_S_keepRoot 1 = .ok (.istore_n 2, 1) := by decide +kernel
theorem d_S_keepRoot_2 : decode c_S_keepRoot 2 = .ok (.iload_n 2, 1) := by decide +kernel
theorem d_S_keepRoot_3 : decode c_S_keepRoot 3 = .ok (.iconst 4, 1) := by decide +kernel
theorem d_S_keepRoot_4 : decode c_S_keepRoot 4 = .ok (.if_icmp .ge 23, 3) := by decide +kernel
theorem d_S_keepRoot_7 : decode c_S_keepRoot 7 = .ok (.aload_n 0, 1) := by decide +kernel
theorem d_S_keepRoot_8 : decode c_S_keepRoot 8 = .ok (.getfield 43, 3) := by decide +kernel
theorem d_S_keepRoot_11 : decode c_S_keepRoot 11 = .ok (.iload_n 2, 1) := by decide +kernel
theorem d_S_keepRoot_12 : decode c_S_keepRoot 12 = .ok (.aload_n 0, 1) := by decide +kernel
theorem d_S_keepRoot_13 : decode c_S_keepRoot 13 = .ok (.aload_n 1, 1) := by decide +kernel
theorem d_S_keepRoot_14 : decode c_S_keepRoot 14 = .ok (.iload_n 2, 1) := by decide +kernel
theorem d_S_keepRoot_15 : decode c_S_keepRoot 15 = .ok (.iconst 4, 1) := by decide +kernel
theorem d_S_keepRoot_16 : decode c_S_keepRoot 16 = .ok (.imul, 1) := by decide +kernel
theorem d_S_keepRoot_17 : decode c_S_keepRoot 17 = .ok (.invokevirtual 75, 3) := by decide +kernel
theorem d_S_keepRoot_20 : decode c_S_keepRoot 20 = .ok (.iastore, 1) := by decide +kernel
theorem d_S_keepRoot_21 : decode c_S_keepRoot 21 = .ok (.iinc 2 1, 3) := by decide +kernel
theorem d_S_keepRoot_24 : decode c_S_keepRoot 24 = .ok (.goto (-22), 3) := by decide +kernel
theorem d_S_keepRoot_27 : decode c_S_keepRoot 27 = .ok (.aload_n 0, 1) := by decide +kernel
theorem d_S_keepRoot_28 : decode c_S_keepRoot 28 = .ok (.getfield 27, 3) := by decide +kernel
theorem d_S_keepRoot_31 : decode c_S_keepRoot 31 = .ok (.aload_n 0, 1) := by decide +kernel
theorem d_S_keepRoot_32 : decode c_S_keepRoot 32 = .ok (.getfield 43, 3) := by decide +kernel
theorem d_S_keepRoot_35 : decode c_S_keepRoot 35 = .ok (.iconst 0, 1) := by decide +kernel
theorem d_S_keepRoot_36 : decode c_S_keepRoot 36 = .ok (.invokevirtual 79, 3) := by decide +kernel
theorem d_S_keepRoot_39 : decode c_S_keepRoot 39 = .ok (.ireturn, 1) := by decide +kernel
theorem d_S_keepFolder_0 : decode c_S_keepFolder 0 = .ok (.iconst 0, 1) := by decide +kernel
theorem d_S_keepFolder_1 : decode c_S_keepFolder 1 = .ok (.istore_n 3, 1) := by decide +kernel
theorem d_S_keepFolder_2 : decode c_S_keepFolder 2 = .ok (.iload_n 2, 1) := by decide +kernel
theorem d_S_keepFolder_3 : decode c_S_keepFolder 3 = .ok (.istore 4, 2) := by decide +kernel
theorem d_S_keepFolder_5 : decode c_S_keepFolder 5 = .ok (.iload 4, 2) := by decide +kernel
theorem d_S_keepFolder_7 : decode c_S_keepFolder 7 = .ok (.iload_n 2, 1) := by decide +kernel
theorem d_S_keepFolder_8 : decode c_S_keepFolder 8 = .ok (.iconst 4, 1) := by decide +kernel
theorem d_S_keepFolder_9 : decode c_S_keepFolder 9 = .ok (.iadd, 1) := by decide +kernel
theorem d_S_keepFolder_10 : decode c_S_keepFolder 10 = .ok (.if_icmp .ge 27, 3) := by decide +kernel
theorem d_S_keepFolder_13 : decode c_S_keepFolder 13 = .ok (.iload_n 3, 1) := by decide +kernel
theorem d_S_keepFolder_14 : decode c_S_keepFolder 14 = .ok (.aload_n 1, 1) := by decide +kernel
theorem d_S_keepFolder_15 : decode c_S_keepFolder 15 = .ok (.iload 4, 2) := by decide +kernel
theorem d_S_keepFolder_17 : decode c_S_keepFolder 17 = .ok (.iaload, 1) := by decide +kernel
theorem d_S_keepFolder_18 : decode c_S_keepFolder 18 = .ok (.ior, 1) := by decide +kernel
theorem d_S_keepFolder_19 : decode c_S_keepFolder 19 = .ok (.istore_n 3, 1) := by decide +kernel
theorem d_S_keepFolder_20 : decode c_S_keepFolder 20 = .ok (.aload_n 0, 1) := by decide +kernel
theorem d_S_keepFolder_21 : decode c_S_keepFolder 21 = .ok (.getfield 12, 3) := by decide +kernel
theorem d_S_keepFolder_24 : decode c_S_keepFolder 24 = .ok (.aload_n 1, 1) := by decide +kernel
theorem d_S_keepFolder_25 : decode c_S_keepFolder 25 = .ok (.iload 4, 2) := by decide +kernel
theorem d_S_keepFolder_27 : decode c_S_keepFolder 27 = .ok (.iaload, 1) := by decide +kernel
theorem d_S_keepFolder_28 : decode c_S_keepFolder 28 = .ok (.invokevirtual 82, 3) := by decide +kernel
theorem d_S_keepFolder_31 : decode c_S_keepFolder 31 = .ok (.iinc 4 1, 3) := by decide +kernel
theorem d_S_keepFolder_34 : decode c_S_keepFolder 34 = .ok (.goto (-29), 3) := by decide +kernel
theorem d_S_keepFolder_37 : decode c_S_keepFolder 37 = .ok (.iload_n 3, 1) := by decide +kernel
theorem d_S_keepFolder_38 : decode c_S_keepFolder 38 = .ok (.ifCond .ne 7, 3) := by decide +kernel
theorem d_S_keepFolder_41 : decode c_S_keepFolder 41 = .ok (.iconst 0, 1) := by decide +kernel
theorem d_S_keepFolder_42 : decode c_S_keepFolder 42 = .ok (.goto 12, 3) := by decide +kernel
theorem d_S_keepFolder_45 : decode c_S_keepFolder 45 = .ok (.aload_n 0, 1) := by decide +kernel
theorem d_S_keepFolder_46 : decode c_S_keepFolder 46 = .ok (.getfield 23, 3) := by decide +kernel
theorem d_S_keepFolder_49 : decode c_S_keepFolder 49 = .ok (.aload_n 1, 1) := by decide +kernel
theorem d_S_keepFolder_50 : decode c_S_keepFolder 50 = .ok (.iload_n 2, 1) := by decide +kernel
theorem d_S_keepFolder_51 : decode c_S_keepFolder 51 = .ok (.invokevirtual 79, 3) := by decide +kernel
theorem d_S_keepFolder_54 : decode c_S_keepFolder 54 = .ok (.ireturn, 1) := by decide +kernel
theorem d_S_keepOnly_0 : decode c_S_keepOnly 0 = .ok (.aload_n 0, 1) := by decide +kernel
theorem d_S_keepOnly_1 : decode c_S_keepOnly 1 = .ok (.getfield 12, 3) := by decide +kernel
theorem d_S_keepOnly_4 : decode c_S_keepOnly 4 = .ok (.invokevirtual 84, 3) := by decide +kernel
theorem d_S_keepOnly_7 : decode c_S_keepOnly 7 = .ok (.aload_n 0, 1) := by decide +kernel
theorem d_S_keepOnly_8 : decode c_S_keepOnly 8 = .ok (.getfield 23, 3) := by decide +kernel
theorem d_S_keepOnly_11 : decode c_S_keepOnly 11 = .ok (.invokevirtual 87, 3) := by decide +kernel
theorem d_S_keepOnly_14 : decode c_S_keepOnly 14 = .ok (.aload_n 0, 1) := by decide +kernel
theorem d_S_keepOnly_15 : decode c_S_keepOnly 15 = .ok (.getfield 27, 3) := by decide +kernel
theorem d_S_keepOnly_18 : decode c_S_keepOnly 18 = .ok (.invokevirtual 87, 3) := by decide +kernel
theorem d_S_keepOnly_21 : decode c_S_keepOnly 21 = .ok (.aload_n 0, 1) := by decide +kernel
theorem d_S_keepOnly_22 : decode c_S_keepOnly 22 = .ok (.iload_n 1, 1) := by decide +kernel
theorem d_S_keepOnly_23 : decode c_S_keepOnly 23 = .ok (.putfield 50, 3) := by decide +kernel
theorem d_S_keepOnly_26 : decode c_S_keepOnly 26 = .ok (.iconst 1, 1) := by decide +kernel
theorem d_S_keepOnly_27 : decode c_S_keepOnly 27 = .ok (.istore_n 2, 1) := by decide +kernel
theorem d_S_keepOnly_28 : decode c_S_keepOnly 28 = .ok (.iload_n 2, 1) := by decide +kernel
theorem d_S_keepOnly_29 : decode c_S_keepOnly 29 = .ok (.aload_n 0, 1) := by decide +kernel
theorem d_S_keepOnly_30 : decode c_S_keepOnly 30 = .ok (.getfield 46, 3) := by decide +kernel
theorem d_S_keepOnly_33 : decode c_S_keepOnly 33 = .ok (.if_icmp .gt 27, 3) := by decide +kernel
theorem d_S_keepOnly_36 : decode c_S_keepOnly 36 = .ok (.aload_n 0, 1) := by decide +kernel
theorem d_S_keepOnly_37 : decode c_S_keepOnly 37 = .ok (.iload_n 2, 1) := by decide +kernel
theorem d_S_keepOnly_38 : decode c_S_keepOnly 38 = .ok (.invokevirtual 88, 3) := by decide +kernel
theorem d_S_keepOnly_41 : decode c_S_keepOnly 41 = .ok (.ifCond .eq 13, 3) := by decide +kernel
theorem d_S_keepOnly_44 : decode c_S_keepOnly 44 = .ok (.aload_n 0, 1) := by decide +kernel
theorem d_S_keepOnly_45 : decode c_S_keepOnly 45 = .ok (.aload_n 0, 1) := by decide +kernel
theorem d_S_keepOnly_46 : decode c_S_keepOnly 46 = .ok (.getfield 30, 3) := by decide +kernel
theorem d_S_keepOnly_49 : decode c_S_keepOnly 49 = .ok (.iload_n 2, 1) := by decide +kernel
theorem d_S_keepOnly_50 : decode c_S_keepOnly 50 = .ok (.iaload, 1) := by decide +kernel
theorem d_S_keepOnly_51 : decode c_S_keepOnly 51 = .ok (.invokevirtual 92, 3) := by decide +kernel
theorem d_S_keepOnly_54 : decode c_S_keepOnly 54 = .ok (.iinc 2 1, 3) := by decide +kernel
theorem d_S_keepOnly_57 : decode c_S_keepOnly 57 = .ok (.goto (-29), 3) := by decide +kernel
theorem d_S_keepOnly_60 : decode c_S_keepOnly 60 = .ok (.return_, 1) := by decide +kernel
theorem d_S_keepAgain_0 : decode c_S_keepAgain 0 = .ok (.aload_n 0, 1) := by decide +kernel
theorem d_S_keepAgain_1 : decode c_S_keepAgain 1 = .ok (.getfield 27, 3) := by decide +kernel
theorem d_S_keepAgain_4 : decode c_S_keepAgain 4 = .ok (.iload_n 1, 1) := by decide +kernel
theorem d_S_keepAgain_5 : decode c_S_keepAgain 5 = .ok (.invokevirtual 95, 3) := by decide +kernel
theorem d_S_keepAgain_8 : decode c_S_keepAgain 8 = .ok (.iconst 0, 1) := by decide +kernel
theorem d_S_keepAgain_9 : decode c_S_keepAgain 9 = .ok (.istore_n 2, 1) := by decide +kernel
theorem d_S_keepAgain_10 : decode c_S_keepAgain 10 = .ok (.iload_n 2, 1) := by decide +kernel
theorem d_S_keepAgain_11 : decode c_S_keepAgain 11 = .ok (.iconst 4, 1) := by decide +kernel
theorem d_S_keepAgain_12 : decode c_S_keepAgain 12 = .ok (.if_icmp .ge 59, 3) := by decide +kernel
theorem d_S_keepAgain_15 : decode c_S_keepAgain 15 = .ok (.aload_n 0, 1) := by decide +kernel
theorem d_S_keepAgain_16 : decode c_S_keepAgain 16 = .ok (.getfield 27, 3) := by decide +kernel
theorem d_S_keepAgain_19 : decode c_S_keepAgain 19 = .ok (.iload_n 1, 1) := by decide +kernel
theorem d_S_keepAgain_20 : decode c_S_keepAgain 20 = .ok (.iload_n 2, 1) := by decide +kernel
theorem d_S_keepAgain_21 : decode c_S_keepAgain 21 = .ok (.invokevirtual 67, 3) := by decide +kernel
theorem d_S_keepAgain_24 : decode c_S_keepAgain 24 = .ok (.istore_n 3, 1) := by decide +kernel
theorem d_S_keepAgain_25 : decode c_S_keepAgain 25 = .ok (.aload_n 0, 1) := by decide +kernel
theorem d_S_keepAgain_26 : decode c_S_keepAgain 26 = .ok (.getfield 23, 3) := by decide +kernel
theorem d_S_keepAgain_29 : decode c_S_keepAgain 29 = .ok (.iload_n 3, 1) := by decide +kernel
theorem d_S_keepAgain_30 : decode c_S_keepAgain 30 = .ok (.invokevirtual 95, 3) := by decide +kernel
theorem d_S_keepAgain_33 : decode c_S_keepAgain 33 = .ok (.iconst 0, 1) := by decide +kernel
theorem d_S_keepAgain_34 : decode c_S_keepAgain 34 = .ok (.istore 4, 2) := by decide +kernel
theorem d_S_keepAgain_36 : decode c_S_keepAgain 36 = .ok (.iload 4, 2) := by decide +kernel
theorem d_S_keepAgain_38 : decode c_S_keepAgain 38 = .ok (.iconst 4, 1) := by decide +kernel
theorem d_S_keepAgain_39 : decode c_S_keepAgain 39 = .ok (.if_icmp .ge 26, 3) := by decide +kernel
theorem d_S_keepAgain_42 : decode c_S_keepAgain 42 = .ok (.aload_n 0, 1) := by decide +kernel
theorem d_S_keepAgain_43 : decode c_S_keepAgain 43 = .ok (.getfield 12, 3) := by decide +kernel
theorem d_S_keepAgain_46 : decode c_S_keepAgain 46 = .ok (.aload_n 0, 1) := by decide +kernel
theorem d_S_keepAgain_47 : decode c_S_keepAgain 47 = .ok (.getfield 23, 3) := by decide +kernel
theorem d_S_keepAgain_50 : decode c_S_keepAgain 50 = .ok (.iload_n 3, 1) := by decide +kernel
theorem d_S_keepAgain_51 : decode c_S_keepAgain 51 = .ok (.iload 4, 2) := by decide +kernel
theorem d_S_keepAgain_53 : decode c_S_keepAgain 53 = .ok (.invokevirtual 67, 3) := by decide +kernel
theorem d_S_keepAgain_56 : decode c_S_keepAgain 56 = .ok (.invokevirtual 82, 3) := by decide +kernel
theorem d_S_keepAgain_59 : decode c_S_keepAgain 59 = .ok (.iinc 4 1, 3) := by decide +kernel
theorem d_S_keepAgain_62 : decode c_S_keepAgain 62 = .ok (.goto (-26), 3) := by decide +kernel
theorem d_S_keepAgain_65 : decode c_S_keepAgain 65 = .ok (.iinc 2 1, 3) := by decide +kernel
theorem d_S_keepAgain_68 : decode c_S_keepAgain 68 = .ok (.goto (-58), 3) := by decide +kernel
theorem d_S_keepAgain_71 : decode c_S_keepAgain 71 = .ok (.return_, 1) := by decide +kernel
theorem d_D_init_0 : decode c_D_init 0 = .ok (.aload_n 0, 1) := by decide +kernel
theorem d_D_init_1 : decode c_D_init 1 = .ok (.invokespecial 1, 3) := by decide +kernel
theorem d_D_init_4 : decode c_D_init 4 = .ok (.aload_n 0, 1) := by decide +kernel
theorem d_D_init_5 : decode c_D_init 5 = .ok (.new 7, 3) := by decide +kernel
theorem d_D_init_8 : decode c_D_init 8 = .ok (.dup, 1) := by decide +kernel
theorem d_D_init_9 : decode c_D_init 9 = .ok (.invokespecial 9, 3) := by decide +kernel
theorem d_D_init_12 : decode c_D_init 12 = .ok (.putfield 10, 3) := by decide +kernel
theorem d_D_init_15 : decode c_D_init 15 = .ok (.aload_n 0, 1) := by decide +kernel
theorem d_D_init_16 : decode c_D_init 16 = .ok (.bipush 16, 2) := by decide +kernel
theorem d_D_init_18 : decode c_D_init 18 = .ok (.newarray .int, 2) := by decide +kernel
theorem d_D_init_20 : decode c_D_init 20 = .ok (.putfield 16, 3) := by decide +kernel
theorem d_D_init_23 : decode c_D_init 23 = .ok (.aload_n 0, 1) := by decide +kernel
theorem d_D_init_24 : decode c_D_init 24 = .ok (.bipush 16, 2) := by decide +kernel
theorem d_D_init_26 : decode c_D_init 26 = .ok (.newarray .int, 2) := by decide +kernel
theorem d_D_init_28 : decode c_D_init 28 = .ok (.putfield 20, 3) := by decide +kernel
theorem d_D_init_31 : decode c_D_init 31 = .ok (.aload_n 0, 1) := by decide +kernel
theorem d_D_init_32 : decode c_D_init 32 = .ok (.bipush 16, 2) := by decide +kernel
theorem d_D_init_34 : decode c_D_init 34 = .ok (.newarray .int, 2) := by decide +kernel
theorem d_D_init_36 : decode c_D_init 36 = .ok (.putfield 23, 3) := by decide +kernel
theorem d_D_init_39 : decode c_D_init 39 = .ok (.aload_n 0, 1) := by decide +kernel
theorem d_D_init_40 : decode c_D_init 40 = .ok (.bipush 6, 2) := by decide +kernel
theorem d_D_init_42 : decode c_D_init 42 = .ok (.newarray .int, 2) := by decide +kernel
theorem d_D_init_44 : decode c_D_init 44 = .ok (.putfield 26, 3) := by decide +kernel
theorem d_D_init_47 : decode c_D_init 47 = .ok (.return_, 1) := by decide +kernel
theorem d_D_write_0 : decode c_D_write 0 = .ok (.iload_n 1, 1) := by decide +kernel
theorem d_D_write_1 : decode c_D_write 1 = .ok (.invokestatic 29, 3) := by decide +kernel
theorem d_D_write_4 : decode c_D_write 4 = .ok (.ifCond .eq 14, 3) := by decide +kernel
theorem d_D_write_7 : decode c_D_write 7 = .ok (.iload_n 2, 1) := by decide +kernel
theorem d_D_write_8 : decode c_D_write 8 = .ok (.ifCond .lt 10, 3) := by decide +kernel
theorem d_D_write_11 : decode c_D_write 11 = .ok (.iload_n 2, 1) := by decide +kernel
theorem d_D_write_12 : decode c_D_write 12 = .ok (.sipush 9999, 3) := by decide +kernel
theorem d_D_write_15 : decode c_D_write 15 = .ok (.if_icmp .le 5, 3) := by decide +kernel
theorem d_D_write_18 : decode c_D_write 18 = .ok (.iconst (-1), 1) := by decide +kernel
theorem d_D_write_19 : decode c_D_write 19 = .ok (.ireturn, 1) := by decide +kernel
theorem d_D_write_20 : decode c_D_write 20 = .ok (.aload_n 0, 1) := by decide +kernel
theorem d_D_write_21 : decode c_D_write 21 = .ok (.getfield 16, 3) := by decide +kernel
theorem d_D_write_24 : decode c_D_write 24 = .ok (.iload_n 1, 1) := by decide +kernel
theorem d_D_write_25 : decode c_D_write 25 = .ok (.iload_n 2, 1) := by decide +kernel
theorem d_D_write_26 : decode c_D_write 26 = .ok (.iastore, 1) := by decide +kernel
theorem d_D_write_27 : decode c_D_write 27 = .ok (.iconst 0, 1) := by decide +kernel
theorem d_D_write_28 : decode c_D_write 28 = .ok (.ireturn, 1) := by decide +kernel
theorem d_D_stage_0 : decode c_D_stage 0 = .ok (.iload_n 1, 1) := by decide +kernel
theorem d_D_stage_1 : decode c_D_stage 1 = .ok (.invokestatic 29, 3) := by decide +kernel
theorem d_D_stage_4 : decode c_D_stage 4 = .ok (.ifCond .ne 5, 3) := by decide +kernel
theorem d_D_stage_7 : decode c_D_stage 7 = .ok (.iconst (-1), 1) := by decide +kernel
theorem d_D_stage_8 : decode c_D_stage 8 = .ok (.ireturn, 1) := by decide +kernel
theorem d_D_stage_9 : decode c_D_stage 9 = .ok (.aload_n 0, 1) := by decide +kernel
theorem d_D_stage_10 : decode c_D_stage 10 = .ok (.getfield 20, 3) := by decide +kernel
theorem d_D_stage_13 : decode c_D_stage 13 = .ok (.iload_n 1, 1) := by decide +kernel
theorem d_D_stage_14 : decode c_D_stage 14 = .ok (.aload_n 0, 1) := by decide +kernel
theorem d_D_stage_15 : decode c_D_stage 15 = .ok (.getfield 16, 3) := by decide +kernel
theorem d_D_stage_18 : decode c_D_stage 18 = .ok (.iload_n 1, 1) := by decide +kernel
theorem d_D_stage_19 : decode c_D_stage 19 = .ok (.iaload, 1) := by decide +kernel
theorem d_D_stage_20 : decode c_D_stage 20 = .ok (.iastore, 1) := by decide +kernel
theorem d_D_stage_21 : decode c_D_stage 21 = .ok (.aload_n 0, 1) := by decide +kernel
theorem d_D_stage_22 : decode c_D_stage 22 = .ok (.getfield 10, 3) := by decide +kernel
theorem d_D_stage_25 : decode c_D_stage 25 = .ok (.getfield 33, 3) := by decide +kernel
theorem d_D_stage_28 : decode c_D_stage 28 = .ok (.aload_n 0, 1) := by decide +kernel
theorem d_D_stage_29 : decode c_D_stage 29 = .ok (.getfield 20, 3) := by decide +kernel
theorem d_D_stage_32 : decode c_D_stage 32 = .ok (.iload_n 1, 1) := by decide +kernel
theorem d_D_stage_33 : decode c_D_stage 33 = .ok (.iaload, 1) := by decide +kernel
theorem d_D_stage_34 : decode c_D_stage 34 = .ok (.invokevirtual 37, 3) := by decide +kernel
theorem d_D_stage_37 : decode c_D_stage 37 = .ok (.aload_n 0, 1) := by decide +kernel
theorem d_D_stage_38 : decode c_D_stage 38 = .ok (.dup, 1) := by decide +kernel
theorem d_D_stage_39 : decode c_D_stage 39 = .ok (.getfield 43, 3) := by decide +kernel
theorem d_D_stage_42 : decode c_D_stage 42 = .ok (.iconst 1, 1) := by decide +kernel
theorem d_D_stage_43 : decode c_D_stage 43 = .ok (.iload_n 1, 1) := by decide +kernel
theorem d_D_stage_44 : decode c_D_stage 44 = .ok (.ishl, 1) := by decide +kernel
theorem d_D_stage_45 : decode c_D_stage 45 = .ok (.iconst (-1), 1) := by decide +kernel
theorem d_D_stage_46 : decode c_D_stage 46 = .ok (.ixor, 1) := by decide +kernel
theorem d_D_stage_47 : decode c_D_stage 47 = .ok (.iand, 1) := by decide +kernel
theorem d_D_stage_48 : decode c_D_stage 48 = .ok (.putfield 43, 3) := by decide +kernel
theorem d_D_stage_51 : decode c_D_stage 51 = .ok (.iconst 0, 1) := by decide +kernel
theorem d_D_stage_52 : decode c_D_stage 52 = .ok (.ireturn, 1) := by decide +kernel
theorem d_D_commit_0 : decode c_D_commit 0 = .ok (.aload_n 0, 1) := by decide +kernel
theorem d_D_commit_1 : decode c_D_commit 1 = .ok (.getfield 43, 3) := by decide +kernel
theorem d_D_commit_4 : decode c_D_commit 4 = .ok (.ifCond .eq 6, 3) := by decide +kernel
theorem d_D_commit_7 : decode c_D_commit 7 = .ok (.bipush (-5), 2) := by decide +kernel
theorem d_D_commit_9 : decode c_D_commit 9 = .ok (.ireturn, 1) := by decide +kernel
theorem d_D_commit_10 : decode c_D_commit 10 = .ok (.aload_n 0, 1) := by decide +kernel
theorem d_D_commit_11 : decode c_D_commit 11 = .ok (.getfield 47, 3) := by decide +kernel
theorem d_D_commit_14 : decode c_D_commit 14 = .ok (.ifCond .ne 17, 3) := by decide +kernel
theorem d_D_commit_17 : decode c_D_commit 17 = .ok (.aload_n 0, 1) := by decide +kernel
theorem d_D_commit_18 : decode c_D_commit 18 = .ok (.aload_n 0, 1) := by decide +kernel
theorem d_D_commit_19 : decode c_D_commit 19 = .ok (.getfield 20, 3) := by decide +kernel
theorem d_D_commit_22 : decode c_D_commit 22 = .ok (.invokevirtual 50, 3) := by decide +kernel
theorem d_D_commit_25 : decode c_D_commit 25 = .ok (.ifCond .eq 6, 3) := by decide +kernel
theorem d_D_commit_28 : decode c_D_commit 28 = .ok (.bipush (-3), 2) := by decide +kernel
theorem d_D_commit_30 : decode c_D_commit 30 = .ok (.ireturn, 1) := by decide +kernel
theorem d_D_commit_31 : decode c_D_commit 31 = .ok (.aload_n 0, 1) := by decide +kernel
theorem d_D_commit_32 : decode c_D_commit 32 = .ok (.getfield 10, 3) := by decide +kernel
theorem d_D_commit_35 : decode c_D_commit 35 = .ok (.invokevirtual 54, 3) := by decide +kernel
theorem d_D_commit_38 : decode c_D_commit 38 = .ok (.ifCond .eq 6, 3) := by decide +kernel
theorem d_D_commit_41 : decode c_D_commit 41 = .ok (.bipush (-2), 2) := by decide +kernel
theorem d_D_commit_43 : decode c_D_commit 43 = .ok (.ireturn, 1) := by decide +kernel
theorem d_D_commit_44 : decode c_D_commit 44 = .ok (.aload_n 0, 1) := by decide +kernel
theorem d_D_commit_45 : decode c_D_commit 45 = .ok (.getfield 26, 3) := by decide +kernel
theorem d_D_commit_48 : decode c_D_commit 48 = .ok (.aload_n 0, 1) := by decide +kernel
theorem d_D_commit_49 : decode c_D_commit 49 = .ok (.getfield 58, 3) := by decide +kernel
theorem d_D_commit_52 : decode c_D_commit 52 = .ok (.aload_n 0, 1) := by decide +kernel
theorem d_D_commit_53 : decode c_D_commit 53 = .ok (.getfield 10, 3) := by decide +kernel
theorem d_D_commit_56 : decode c_D_commit 56 = .ok (.aload_n 0, 1) := by decide +kernel
theorem d_D_commit_57 : decode c_D_commit 57 = .ok (.getfield 20, 3) := by decide +kernel
theorem d_D_commit_60 : decode c_D_commit 60 = .ok (.aload_n 0, 1) := by decide +kernel
theorem d_D_commit_61 : decode c_D_commit 61 = .ok (.invokevirtual 61, 3) := by decide +kernel
theorem d_D_commit_64 : decode c_D_commit 64 = .ok (.aload_n 0, 1) := by decide +kernel
theorem d_D_commit_65 : decode c_D_commit 65 = .ok (.getfield 47, 3) := by decide +kernel
theorem d_D_commit_68 : decode c_D_commit 68 = .ok (.invokevirtual 65, 3) := by decide +kernel
theorem d_D_commit_71 : decode c_D_commit 71 = .ok (.iastore, 1) := by decide +kernel
theorem d_D_commit_72 : decode c_D_commit 72 = .ok (.aload_n 0, 1) := by decide +kernel
theorem d_D_commit_73 : decode c_D_commit 73 = .ok (.iconst 0, 1) := by decide +kernel
theorem d_D_commit_74 : decode c_D_commit 74 = .ok (.putfield 47, 3) := by decide +kernel
theorem d_D_commit_77 : decode c_D_commit 77 = .ok (.aload_n 0, 1) := by decide +kernel
theorem d_D_commit_78 : decode c_D_commit 78 = .ok (.invokevirtual 61, 3) := by decide +kernel
theorem d_D_commit_81 : decode c_D_commit 81 = .ok (.ireturn, 1) := by decide +kernel
theorem d_D_branch_0 : decode c_D_branch 0 = .ok (.iload_n 1, 1) := by decide +kernel
theorem d_D_branch_1 : decode c_D_branch 1 = .ok (.invokestatic 69, 3) := by decide +kernel
theorem d_D_branch_4 : decode c_D_branch 4 = .ok (.ifCond .eq 19, 3) := by decide +kernel
theorem d_D_branch_7 : decode c_D_branch 7 = .ok (.aload_n 0, 1) := by decide +kernel
theorem d_D_branch_8 : decode c_D_branch 8 = .ok (.getfield 26, 3) := by decide +kernel
theorem d_D_branch_11 : decode c_D_branch 11 = .ok (.iload_n 1, 1) := by decide +kernel
theorem d_D_branch_12 : decode c_D_branch 12 = .ok (.iaload, 1) := by decide +kernel
theorem d_D_branch_13 : decode c_D_branch 13 = .ok (.ifCond .ne 10, 3) := by decide +kernel
theorem d_D_branch_16 : decode c_D_branch 16 = .ok (.aload_n 0, 1) := by decide +kernel
theorem d_D_branch_17 : decode c_D_branch 17 = .ok (.invokevirtual 61, 3) := by decide +kernel
theorem d_D_branch_20 : decode c_D_branch 20 = .ok (.ifCond .ne 5, 3) := by decide +kernel
theorem d_D_branch_23 : decode c_D_branch 23 = .ok (.iconst (-1), 1) := by decide +kernel
theorem d_D_branch_24 : decode c_D_branch 24 = .ok (.ireturn, 1) := by decide +kernel
theorem d_D_branch_25 : decode c_D_branch 25 = .ok (.aload_n 0, 1) := by decide +kernel
theorem d_D_branch_26 : decode c_D_branch 26 = .ok (.getfield 26, 3) := by decide +kernel
theorem d_D_branch_29 : decode c_D_branch 29 = .ok (.iload_n 1, 1) := by decide +kernel
theorem d_D_branch_30 : decode c_D_branch 30 = .ok (.aload_n 0, 1) := by decide +kernel
theorem d_D_branch_31 : decode c_D_branch 31 = .ok (.invokevirtual 61, 3) := by decide +kernel
theorem d_D_branch_34 : decode c_D_branch 34 = .ok (.iastore, 1) := by decide +kernel
theorem d_D_branch_35 : decode c_D_branch 35 = .ok (.iconst 0, 1) := by decide +kernel
theorem d_D_branch_36 : decode c_D_branch 36 = .ok (.ireturn, 1) := by decide +kernel
theorem d_D_turn_0 : decode c_D_turn 0 = .ok (.aload_n 0, 1) := by decide +kernel
theorem d_D_turn_1 : decode c_D_turn 1 = .ok (.iload_n 1, 1) := by decide +kernel
theorem d_D_turn_2 : decode c_D_turn 2 = .ok (.invokevirtual 72, 3) := by decide +kernel
theorem d_D_turn_5 : decode c_D_turn 5 = .ok (.ifCond .eq 10, 3) := by decide +kernel
theorem d_D_turn_8 : decode c_D_turn 8 = .ok (.aload_n 0, 1) := by decide +kernel
theorem d_D_turn_9 : decode c_D_turn 9 = .ok (.getfield 47, 3) := by decide +kernel
theorem d_D_turn_12 : decode c_D_turn 12 = .ok (.ifCond .eq 5, 3) := by decide +kernel
theorem d_D_turn_15 : decode c_D_turn 15 = .ok (.iconst (-1), 1) := by decide +kernel
theorem d_D_turn_16 : decode c_D_turn 16 = .ok (.ireturn, 1) := by decide +kernel
theorem d_D_turn_17 : decode c_D_turn 17 = .ok (.aload_n 0, 1) := by decide +kernel
theorem d_D_turn_18 : decode c_D_turn 18 = .ok (.invokevirtual 75, 3) := by decide +kernel
theorem d_D_turn_21 : decode c_D_turn 21 = .ok (.ifCond .ne 6, 3) := by decide +kernel
theorem d_D_turn_24 : decode c_D_turn 24 = .ok (.bipush (-4), 2) := by decide +kernel
theorem d_D_turn_26 : decode c_D_turn 26 = .ok (.ireturn, 1) := by decide +kernel
theorem d_D_turn_27 : decode c_D_turn 27 = .ok (.aload_n 0, 1) := by decide +kernel
theorem d_D_turn_28 : decode c_D_turn 28 = .ok (.iload_n 1, 1) := by decide +kernel
theorem d_D_turn_29 : decode c_D_turn 29 = .ok (.putfield 58, 3) := by decide +kernel
theorem d_D_turn_32 : decode c_D_turn 32 = .ok (.aload_n 0, 1) := by decide +kernel
theorem d_D_turn_33 : decode c_D_turn 33 = .ok (.aload_n 0, 1) := by decide +kernel
theorem d_D_turn_34 : decode c_D_turn 34 = .ok (.getfield 26, 3) := by decide +kernel
theorem d_D_turn_37 : decode c_D_turn 37 = .ok (.iload_n 1, 1) := by decide +kernel
theorem d_D_turn_38 : decode c_D_turn 38 = .ok (.iaload, 1) := by decide +kernel
theorem d_D_turn_39 : decode c_D_turn 39 = .ok (.invokevirtual 78, 3) := by decide +kernel
theorem d_D_turn_42 : decode c_D_turn 42 = .ok (.ireturn, 1) := by decide +kernel
theorem d_D_merge_0 : decode c_D_merge 0 = .ok (.aload_n 0, 1) := by decide +kernel
theorem d_D_merge_1 : decode c_D_merge 1 = .ok (.iload_n 1, 1) := by decide +kernel
theorem d_D_merge_2 : decode c_D_merge 2 = .ok (.invokevirtual 72, 3) := by decide +kernel
theorem d_D_merge_5 : decode c_D_merge 5 = .ok (.ifCond .eq 17, 3) := by decide +kernel
theorem d_D_merge_8 : decode c_D_merge 8 = .ok (.aload_n 0, 1) := by decide +kernel
theorem d_D_merge_9 : decode c_D_merge 9 = .ok (.invokevirtual 61, 3) := by decide +kernel
theorem d_D_merge_12 : decode c_D_merge 12 = .ok (.ifCond .eq 10, 3) := by decide +kernel
theorem d_D_merge_15 : decode c_D_merge 15 = .ok (.aload_n 0, 1) := by decide +kernel
theorem d_D_merge_16 : decode c_D_merge 16 = .ok (.getfield 47, 3) := by decide +kernel
theorem d_D_merge_19 : decode c_D_merge 19 = .ok (.ifCond .eq 5, 3) := by decide +kernel
theorem d_D_merge_22 : decode c_D_merge 22 = .ok (.iconst (-1), 1) := by decide +kernel
theorem d_D_merge_23 : decode c_D_merge 23 = .ok (.ireturn, 1) := by decide +kernel
theorem d_D_merge_24 : decode c_D_merge 24 = .ok (.aload_n 0, 1) := by decide +kernel
theorem d_D_merge_25 : decode c_D_merge 25 = .ok (.invokevirtual 75, 3) := by decide +kernel
theorem d_D_merge_28 : decode c_D_merge 28 = .ok (.ifCond .ne 6, 3) := by decide +kernel
theorem d_D_merge_31 : decode c_D_merge 31 = .ok (.bipush (-4), 2) := by decide +kernel
end
section
theorem d_D_merge_33 : decode c_D_merge 33 = .ok (.ireturn, 1) := by decide +kernel
theorem d_D_merge_34 : decode c_D_merge 34 = .ok (.aload_n 0, 1) := by decide +kernel
theorem d_D_merge_35 : decode c_D_merge 35 = .ok (.getfield 26, 3) := by decide +kernel
theorem d_D_merge_38 : decode c_D_merge 38 = .ok (.iload_n 1, 1) := by decide +kernel
theorem d_D_merge_39 : decode c_D_merge 39 = .ok (.iaload, 1) := by decide +kernel
theorem d_D_merge_40 : decode c_D_merge 40 = .ok (.istore_n 2, 1) := by decide +kernel
theorem d_D_merge_41 : decode c_D_merge 41 = .ok (.aload_n 0, 1) := by decide +kernel
theorem d_D_merge_42 : decode c_D_merge 42 = .ok (.getfield 10, 3) := by decide +kernel
theorem d_D_merge_45 : decode c_D_merge 45 = .ok (.aload_n 0, 1) := by decide +kernel
theorem d_D_merge_46 : decode c_D_merge 46 = .ok (.invokevirtual 61, 3) := by decide +kernel
theorem d_D_merge_49 : decode c_D_merge 49 = .ok (.iload_n 2, 1) := by decide +kernel
theorem d_D_merge_50 : decode c_D_merge 50 = .ok (.invokevirtual 82, 3) := by decide +kernel
theorem d_D_merge_53 : decode c_D_merge 53 = .ok (.ifCond .eq 5, 3) := by decide +kernel
theorem d_D_merge_56 : decode c_D_merge 56 = .ok (.iconst 0, 1) := by decide +kernel
theorem d_D_merge_57 : decode c_D_merge 57 = .ok (.ireturn, 1) := by decide +kernel
theorem d_D_merge_58 : decode c_D_merge 58 = .ok (.aload_n 0, 1) := by decide +kernel
theorem d_D_merge_59 : decode c_D_merge 59 = .ok (.getfield 10, 3) := by decide +kernel
theorem d_D_merge_62 : decode c_D_merge 62 = .ok (.iload_n 2, 1) := by decide +kernel
theorem d_D_merge_63 : decode c_D_merge 63 = .ok (.aload_n 0, 1) := by decide +kernel
theorem d_D_merge_64 : decode c_D_merge 64 = .ok (.invokevirtual 61, 3) := by decide +kernel
theorem d_D_merge_67 : decode c_D_merge 67 = .ok (.invokevirtual 82, 3) := by decide +kernel
theorem d_D_merge_70 : decode c_D_merge 70 = .ok (.ifCond .eq 9, 3) := by decide +kernel
theorem d_D_merge_73 : decode c_D_merge 73 = .ok (.aload_n 0, 1) := by decide +kernel
theorem d_D_merge_74 : decode c_D_merge 74 = .ok (.iload_n 2, 1) := by decide +kernel
theorem d_D_merge_75 : decode c_D_merge 75 = .ok (.invokevirtual 78, 3) := by decide +kernel
theorem d_D_merge_78 : decode c_D_merge 78 = .ok (.ireturn, 1) := by decide +kernel
theorem d_D_merge_79 : decode c_D_merge 79 = .ok (.aload_n 0, 1) := by decide +kernel
theorem d_D_merge_80 : decode c_D_merge 80 = .ok (.iload_n 2, 1) := by decide +kernel
theorem d_D_merge_81 : decode c_D_merge 81 = .ok (.invokevirtual 86, 3) := by decide +kernel
theorem d_D_merge_84 : decode c_D_merge 84 = .ok (.ireturn, 1) := by decide +kernel
theorem d_D_abort_0 : decode c_D_abort 0 = .ok (.aload_n 0, 1) := by decide +kernel
theorem d_D_abort_1 : decode c_D_abort 1 = .ok (.getfield 47, 3) := by decide +kernel
theorem d_D_abort_4 : decode c_D_abort 4 = .ok (.ifCond .ne 5, 3) := by decide +kernel
theorem d_D_abort_7 : decode c_D_abort 7 = .ok (.iconst (-1), 1) := by decide +kernel
theorem d_D_abort_8 : decode c_D_abort 8 = .ok (.ireturn, 1) := by decide +kernel
theorem d_D_abort_9 : decode c_D_abort 9 = .ok (.aload_n 0, 1) := by decide +kernel
theorem d_D_abort_10 : decode c_D_abort 10 = .ok (.iconst 0, 1) := by decide +kernel
theorem d_D_abort_11 : decode c_D_abort 11 = .ok (.putfield 47, 3) := by decide +kernel
theorem d_D_abort_14 : decode c_D_abort 14 = .ok (.aload_n 0, 1) := by decide +kernel
theorem d_D_abort_15 : decode c_D_abort 15 = .ok (.iconst 0, 1) := by decide +kernel
theorem d_D_abort_16 : decode c_D_abort 16 = .ok (.putfield 43, 3) := by decide +kernel
theorem d_D_abort_19 : decode c_D_abort 19 = .ok (.aload_n 0, 1) := by decide +kernel
theorem d_D_abort_20 : decode c_D_abort 20 = .ok (.aload_n 0, 1) := by decide +kernel
theorem d_D_abort_21 : decode c_D_abort 21 = .ok (.invokevirtual 61, 3) := by decide +kernel
theorem d_D_abort_24 : decode c_D_abort 24 = .ok (.invokevirtual 78, 3) := by decide +kernel
theorem d_D_abort_27 : decode c_D_abort 27 = .ok (.pop, 1) := by decide +kernel
theorem d_D_abort_28 : decode c_D_abort 28 = .ok (.iconst 0, 1) := by decide +kernel
theorem d_D_abort_29 : decode c_D_abort 29 = .ok (.ireturn, 1) := by decide +kernel
theorem d_D_pick_0 : decode c_D_pick 0 = .ok (.aload_n 0, 1) := by decide +kernel
theorem d_D_pick_1 : decode c_D_pick 1 = .ok (.getfield 10, 3) := by decide +kernel
theorem d_D_pick_4 : decode c_D_pick 4 = .ok (.iload_n 1, 1) := by decide +kernel
theorem d_D_pick_5 : decode c_D_pick 5 = .ok (.invokevirtual 89, 3) := by decide +kernel
theorem d_D_pick_8 : decode c_D_pick 8 = .ok (.ifCond .eq 17, 3) := by decide +kernel
theorem d_D_pick_11 : decode c_D_pick 11 = .ok (.aload_n 0, 1) := by decide +kernel
theorem d_D_pick_12 : decode c_D_pick 12 = .ok (.invokevirtual 61, 3) := by decide +kernel
theorem d_D_pick_15 : decode c_D_pick 15 = .ok (.ifCond .eq 10, 3) := by decide +kernel
theorem d_D_pick_18 : decode c_D_pick 18 = .ok (.aload_n 0, 1) := by decide +kernel
theorem d_D_pick_19 : decode c_D_pick 19 = .ok (.getfield 47, 3) := by decide +kernel
theorem d_D_pick_22 : decode c_D_pick 22 = .ok (.ifCond .eq 5, 3) := by decide +kernel
theorem d_D_pick_25 : decode c_D_pick 25 = .ok (.iconst (-1), 1) := by decide +kernel
theorem d_D_pick_26 : decode c_D_pick 26 = .ok (.ireturn, 1) := by decide +kernel
theorem d_D_pick_27 : decode c_D_pick 27 = .ok (.aload_n 0, 1) := by decide +kernel
theorem d_D_pick_28 : decode c_D_pick 28 = .ok (.invokevirtual 75, 3) := by decide +kernel
theorem d_D_pick_31 : decode c_D_pick 31 = .ok (.ifCond .ne 6, 3) := by decide +kernel
theorem d_D_pick_34 : decode c_D_pick 34 = .ok (.bipush (-4), 2) := by decide +kernel
theorem d_D_pick_36 : decode c_D_pick 36 = .ok (.ireturn, 1) := by decide +kernel
theorem d_D_pick_37 : decode c_D_pick 37 = .ok (.aload_n 0, 1) := by decide +kernel
theorem d_D_pick_38 : decode c_D_pick 38 = .ok (.iload_n 1, 1) := by decide +kernel
theorem d_D_pick_39 : decode c_D_pick 39 = .ok (.aload_n 0, 1) := by decide +kernel
theorem d_D_pick_40 : decode c_D_pick 40 = .ok (.getfield 10, 3) := by decide +kernel
theorem d_D_pick_43 : decode c_D_pick 43 = .ok (.iload_n 1, 1) := by decide +kernel
theorem d_D_pick_44 : decode c_D_pick 44 = .ok (.iconst 0, 1) := by decide +kernel
theorem d_D_pick_45 : decode c_D_pick 45 = .ok (.invokevirtual 92, 3) := by decide +kernel
theorem d_D_pick_48 : decode c_D_pick 48 = .ok (.invokevirtual 96, 3) := by decide +kernel
theorem d_D_pick_51 : decode c_D_pick 51 = .ok (.ifCond .eq 6, 3) := by decide +kernel
theorem d_D_pick_54 : decode c_D_pick 54 = .ok (.bipush (-5), 2) := by decide +kernel
theorem d_D_pick_56 : decode c_D_pick 56 = .ok (.ireturn, 1) := by decide +kernel
theorem d_D_pick_57 : decode c_D_pick 57 = .ok (.aload_n 0, 1) := by decide +kernel
theorem d_D_pick_58 : decode c_D_pick 58 = .ok (.aload_n 0, 1) := by decide +kernel
theorem d_D_pick_59 : decode c_D_pick 59 = .ok (.getfield 23, 3) := by decide +kernel
theorem d_D_pick_62 : decode c_D_pick 62 = .ok (.invokevirtual 50, 3) := by decide +kernel
theorem d_D_pick_65 : decode c_D_pick 65 = .ok (.ifCond .eq 6, 3) := by decide +kernel
theorem d_D_pick_68 : decode c_D_pick 68 = .ok (.bipush (-3), 2) := by decide +kernel
theorem d_D_pick_70 : decode c_D_pick 70 = .ok (.ireturn, 1) := by decide +kernel
theorem d_D_pick_71 : decode c_D_pick 71 = .ok (.aload_n 0, 1) := by decide +kernel
theorem d_D_pick_72 : decode c_D_pick 72 = .ok (.getfield 10, 3) := by decide +kernel
theorem d_D_pick_75 : decode c_D_pick 75 = .ok (.invokevirtual 54, 3) := by decide +kernel
theorem d_D_pick_78 : decode c_D_pick 78 = .ok (.ifCond .eq 6, 3) := by decide +kernel
theorem d_D_pick_81 : decode c_D_pick 81 = .ok (.bipush (-2), 2) := by decide +kernel
theorem d_D_pick_83 : decode c_D_pick 83 = .ok (.ireturn, 1) := by decide +kernel
theorem d_D_pick_84 : decode c_D_pick 84 = .ok (.aload_n 0, 1) := by decide +kernel
theorem d_D_pick_85 : decode c_D_pick 85 = .ok (.aload_n 0, 1) := by decide +kernel
theorem d_D_pick_86 : decode c_D_pick 86 = .ok (.getfield 10, 3) := by decide +kernel
theorem d_D_pick_89 : decode c_D_pick 89 = .ok (.aload_n 0, 1) := by decide +kernel
theorem d_D_pick_90 : decode c_D_pick 90 = .ok (.getfield 23, 3) := by decide +kernel
theorem d_D_pick_93 : decode c_D_pick 93 = .ok (.aload_n 0, 1) := by decide +kernel
theorem d_D_pick_94 : decode c_D_pick 94 = .ok (.invokevirtual 61, 3) := by decide +kernel
theorem d_D_pick_97 : decode c_D_pick 97 = .ok (.iconst 0, 1) := by decide +kernel
theorem d_D_pick_98 : decode c_D_pick 98 = .ok (.invokevirtual 65, 3) := by decide +kernel
theorem d_D_pick_101 : decode c_D_pick 101 = .ok (.invokevirtual 78, 3) := by decide +kernel
theorem d_D_pick_104 : decode c_D_pick 104 = .ok (.ireturn, 1) := by decide +kernel
theorem d_D_reset_0 : decode c_D_reset 0 = .ok (.aload_n 0, 1) := by decide +kernel
theorem d_D_reset_1 : decode c_D_reset 1 = .ok (.getfield 10, 3) := by decide +kernel
theorem d_D_reset_4 : decode c_D_reset 4 = .ok (.iload_n 1, 1) := by decide +kernel
theorem d_D_reset_5 : decode c_D_reset 5 = .ok (.invokevirtual 89, 3) := by decide +kernel
theorem d_D_reset_8 : decode c_D_reset 8 = .ok (.ifCond .eq 10, 3) := by decide +kernel
theorem d_D_reset_11 : decode c_D_reset 11 = .ok (.aload_n 0, 1) := by decide +kernel
theorem d_D_reset_12 : decode c_D_reset 12 = .ok (.getfield 47, 3) := by decide +kernel
theorem d_D_reset_15 : decode c_D_reset 15 = .ok (.ifCond .eq 5, 3) := by decide +kernel
theorem d_D_reset_18 : decode c_D_reset 18 = .ok (.iconst (-1), 1) := by decide +kernel
theorem d_D_reset_19 : decode c_D_reset 19 = .ok (.ireturn, 1) := by decide +kernel
theorem d_D_reset_20 : decode c_D_reset 20 = .ok (.aload_n 0, 1) := by decide +kernel
theorem d_D_reset_21 : decode c_D_reset 21 = .ok (.iload_n 1, 1) := by decide +kernel
theorem d_D_reset_22 : decode c_D_reset 22 = .ok (.invokevirtual 78, 3) := by decide +kernel
theorem d_D_reset_25 : decode c_D_reset 25 = .ok (.pop, 1) := by decide +kernel
theorem d_D_reset_26 : decode c_D_reset 26 = .ok (.iconst 0, 1) := by decide +kernel
theorem d_D_reset_27 : decode c_D_reset 27 = .ok (.ireturn, 1) := by decide +kernel
theorem d_D_remove_0 : decode c_D_remove 0 = .ok (.aload_n 0, 1) := by decide +kernel
theorem d_D_remove_1 : decode c_D_remove 1 = .ok (.iload_n 1, 1) := by decide +kernel
theorem d_D_remove_2 : decode c_D_remove 2 = .ok (.invokevirtual 72, 3) := by decide +kernel
theorem d_D_remove_5 : decode c_D_remove 5 = .ok (.ifCond .eq 11, 3) := by decide +kernel
theorem d_D_remove_8 : decode c_D_remove 8 = .ok (.iload_n 1, 1) := by decide +kernel
theorem d_D_remove_9 : decode c_D_remove 9 = .ok (.aload_n 0, 1) := by decide +kernel
theorem d_D_remove_10 : decode c_D_remove 10 = .ok (.getfield 58, 3) := by decide +kernel
theorem d_D_remove_13 : decode c_D_remove 13 = .ok (.if_icmp .ne 5, 3) := by decide +kernel
theorem d_D_remove_16 : decode c_D_remove 16 = .ok (.iconst (-1), 1) := by decide +kernel
theorem d_D_remove_17 : decode c_D_remove 17 = .ok (.ireturn, 1) := by decide +kernel
theorem d_D_remove_18 : decode c_D_remove 18 = .ok (.aload_n 0, 1) := by decide +kernel
theorem d_D_remove_19 : decode c_D_remove 19 = .ok (.getfield 26, 3) := by decide +kernel
theorem d_D_remove_22 : decode c_D_remove 22 = .ok (.iload_n 1, 1) := by decide +kernel
theorem d_D_remove_23 : decode c_D_remove 23 = .ok (.iconst 0, 1) := by decide +kernel
theorem d_D_remove_24 : decode c_D_remove 24 = .ok (.iastore, 1) := by decide +kernel
theorem d_D_remove_25 : decode c_D_remove 25 = .ok (.iconst 0, 1) := by decide +kernel
theorem d_D_remove_26 : decode c_D_remove 26 = .ok (.ireturn, 1) := by decide +kernel
theorem d_D_sweep_0 : decode c_D_sweep 0 = .ok (.aload_n 0, 1) := by decide +kernel
theorem d_D_sweep_1 : decode c_D_sweep 1 = .ok (.getfield 10, 3) := by decide +kernel
theorem d_D_sweep_4 : decode c_D_sweep 4 = .ok (.invokevirtual 99, 3) := by decide +kernel
theorem d_D_sweep_7 : decode c_D_sweep 7 = .ok (.istore_n 1, 1) := by decide +kernel
theorem d_D_sweep_8 : decode c_D_sweep 8 = .ok (.aload_n 0, 1) := by decide +kernel
theorem d_D_sweep_9 : decode c_D_sweep 9 = .ok (.getfield 10, 3) := by decide +kernel
theorem d_D_sweep_12 : decode c_D_sweep 12 = .ok (.aload_n 0, 1) := by decide +kernel
theorem d_D_sweep_13 : decode c_D_sweep 13 = .ok (.getfield 47, 3) := by decide +kernel
theorem d_D_sweep_16 : decode c_D_sweep 16 = .ok (.invokevirtual 102, 3) := by decide +kernel
theorem d_D_sweep_19 : decode c_D_sweep 19 = .ok (.istore_n 2, 1) := by decide +kernel
theorem d_D_sweep_20 : decode c_D_sweep 20 = .ok (.iconst 0, 1) := by decide +kernel
theorem d_D_sweep_21 : decode c_D_sweep 21 = .ok (.istore_n 3, 1) := by decide +kernel
theorem d_D_sweep_22 : decode c_D_sweep 22 = .ok (.iload_n 3, 1) := by decide +kernel
theorem d_D_sweep_23 : decode c_D_sweep 23 = .ok (.bipush 6, 2) := by decide +kernel
theorem d_D_sweep_25 : decode c_D_sweep 25 = .ok (.if_icmp .ge 25, 3) := by decide +kernel
theorem d_D_sweep_28 : decode c_D_sweep 28 = .ok (.iload_n 2, 1) := by decide +kernel
theorem d_D_sweep_29 : decode c_D_sweep 29 = .ok (.aload_n 0, 1) := by decide +kernel
theorem d_D_sweep_30 : decode c_D_sweep 30 = .ok (.getfield 10, 3) := by decide +kernel
theorem d_D_sweep_33 : decode c_D_sweep 33 = .ok (.aload_n 0, 1) := by decide +kernel
theorem d_D_sweep_34 : decode c_D_sweep 34 = .ok (.getfield 26, 3) := by decide +kernel
theorem d_D_sweep_37 : decode c_D_sweep 37 = .ok (.iload_n 3, 1) := by decide +kernel
theorem d_D_sweep_38 : decode c_D_sweep 38 = .ok (.iaload, 1) := by decide +kernel
theorem d_D_sweep_39 : decode c_D_sweep 39 = .ok (.invokevirtual 102, 3) := by decide +kernel
theorem d_D_sweep_42 : decode c_D_sweep 42 = .ok (.ior, 1) := by decide +kernel
theorem d_D_sweep_43 : decode c_D_sweep 43 = .ok (.istore_n 2, 1) := by decide +kernel
theorem d_D_sweep_44 : decode c_D_sweep 44 = .ok (.iinc 3 1, 3) := by decide +kernel
theorem d_D_sweep_47 : decode c_D_sweep 47 = .ok (.goto (-25), 3) := by decide +kernel
theorem d_D_sweep_50 : decode c_D_sweep 50 = .ok (.aload_n 0, 1) := by decide +kernel
theorem d_D_sweep_51 : decode c_D_sweep 51 = .ok (.getfield 10, 3) := by decide +kernel
theorem d_D_sweep_54 : decode c_D_sweep 54 = .ok (.iload_n 2, 1) := by decide +kernel
theorem d_D_sweep_55 : decode c_D_sweep 55 = .ok (.invokevirtual 105, 3) := by decide +kernel
theorem d_D_sweep_58 : decode c_D_sweep 58 = .ok (.iconst 0, 1) := by decide +kernel
theorem d_D_sweep_59 : decode c_D_sweep 59 = .ok (.istore_n 3, 1) := by decide +kernel
theorem d_D_sweep_60 : decode c_D_sweep 60 = .ok (.iload_n 3, 1) := by decide +kernel
theorem d_D_sweep_61 : decode c_D_sweep 61 = .ok (.bipush 16, 2) := by decide +kernel
theorem d_D_sweep_63 : decode c_D_sweep 63 = .ok (.if_icmp .ge 25, 3) := by decide +kernel
theorem d_D_sweep_66 : decode c_D_sweep 66 = .ok (.aload_n 0, 1) := by decide +kernel
theorem d_D_sweep_67 : decode c_D_sweep 67 = .ok (.getfield 10, 3) := by decide +kernel
theorem d_D_sweep_70 : decode c_D_sweep 70 = .ok (.getfield 33, 3) := by decide +kernel
theorem d_D_sweep_73 : decode c_D_sweep 73 = .ok (.aload_n 0, 1) := by decide +kernel
theorem d_D_sweep_74 : decode c_D_sweep 74 = .ok (.getfield 20, 3) := by decide +kernel
theorem d_D_sweep_77 : decode c_D_sweep 77 = .ok (.iload_n 3, 1) := by decide +kernel
theorem d_D_sweep_78 : decode c_D_sweep 78 = .ok (.iaload, 1) := by decide +kernel
theorem d_D_sweep_79 : decode c_D_sweep 79 = .ok (.invokevirtual 37, 3) := by decide +kernel
theorem d_D_sweep_82 : decode c_D_sweep 82 = .ok (.iinc 3 1, 3) := by decide +kernel
theorem d_D_sweep_85 : decode c_D_sweep 85 = .ok (.goto (-25), 3) := by decide +kernel
theorem d_D_sweep_88 : decode c_D_sweep 88 = .ok (.iload_n 1, 1) := by decide +kernel
theorem d_D_sweep_89 : decode c_D_sweep 89 = .ok (.aload_n 0, 1) := by decide +kernel
theorem d_D_sweep_90 : decode c_D_sweep 90 = .ok (.getfield 10, 3) := by decide +kernel
theorem d_D_sweep_93 : decode c_D_sweep 93 = .ok (.invokevirtual 99, 3) := by decide +kernel
theorem d_D_sweep_96 : decode c_D_sweep 96 = .ok (.isub, 1) := by decide +kernel
theorem d_D_sweep_97 : decode c_D_sweep 97 = .ok (.ireturn, 1) := by decide +kernel
theorem d_D_content_0 : decode c_D_content 0 = .ok (.iload_n 2, 1) := by decide +kernel
theorem d_D_content_1 : decode c_D_content 1 = .ok (.invokestatic 29, 3) := by decide +kernel
theorem d_D_content_4 : decode c_D_content 4 = .ok (.ifCond .ne 5, 3) := by decide +kernel
theorem d_D_content_7 : decode c_D_content 7 = .ok (.iconst (-1), 1) := by decide +kernel
theorem d_D_content_8 : decode c_D_content 8 = .ok (.ireturn, 1) := by decide +kernel
theorem d_D_content_9 : decode c_D_content 9 = .ok (.iload_n 1, 1) := by decide +kernel
theorem d_D_content_10 : decode c_D_content 10 = .ok (.lookupswitch 40 #[(0, 26), (1, 33)], 26) := by decide +kernel
theorem d_D_content_36 : decode c_D_content 36 = .ok (.aload_n 0, 1) := by decide +kernel
theorem d_D_content_37 : decode c_D_content 37 = .ok (.getfield 16, 3) := by decide +kernel
theorem d_D_content_40 : decode c_D_content 40 = .ok (.iload_n 2, 1) := by decide +kernel
theorem d_D_content_41 : decode c_D_content 41 = .ok (.iaload, 1) := by decide +kernel
theorem d_D_content_42 : decode c_D_content 42 = .ok (.ireturn, 1) := by decide +kernel
theorem d_D_content_43 : decode c_D_content 43 = .ok (.aload_n 0, 1) := by decide +kernel
theorem d_D_content_44 : decode c_D_content 44 = .ok (.getfield 20, 3) := by decide +kernel
theorem d_D_content_47 : decode c_D_content 47 = .ok (.iload_n 2, 1) := by decide +kernel
theorem d_D_content_48 : decode c_D_content 48 = .ok (.iaload, 1) := by decide +kernel
theorem d_D_content_49 : decode c_D_content 49 = .ok (.ireturn, 1) := by decide +kernel
theorem d_D_content_50 : decode c_D_content 50 = .ok (.iconst (-1), 1) := by decide +kernel
theorem d_D_content_51 : decode c_D_content 51 = .ok (.ireturn, 1) := by decide +kernel
theorem d_D_at_0 : decode c_D_at 0 = .ok (.aload_n 0, 1) := by decide +kernel
theorem d_D_at_1 : decode c_D_at 1 = .ok (.getfield 10, 3) := by decide +kernel
theorem d_D_at_4 : decode c_D_at 4 = .ok (.iload_n 1, 1) := by decide +kernel
theorem d_D_at_5 : decode c_D_at 5 = .ok (.invokevirtual 89, 3) := by decide +kernel
theorem d_D_at_8 : decode c_D_at 8 = .ok (.ifCond .eq 10, 3) := by decide +kernel
theorem d_D_at_11 : decode c_D_at 11 = .ok (.iload_n 2, 1) := by decide +kernel
theorem d_D_at_12 : decode c_D_at 12 = .ok (.invokestatic 29, 3) := by decide +kernel
theorem d_D_at_15 : decode c_D_at 15 = .ok (.ifCond .ne 5, 3) := by decide +kernel
theorem d_D_at_18 : decode c_D_at 18 = .ok (.iconst (-1), 1) := by decide +kernel
theorem d_D_at_19 : decode c_D_at 19 = .ok (.ireturn, 1) := by decide +kernel
theorem d_D_at_20 : decode c_D_at 20 = .ok (.aload_n 0, 1) := by decide +kernel
theorem d_D_at_21 : decode c_D_at 21 = .ok (.getfield 10, 3) := by decide +kernel
theorem d_D_at_24 : decode c_D_at 24 = .ok (.iload_n 1, 1) := by decide +kernel
theorem d_D_at_25 : decode c_D_at 25 = .ok (.iload_n 2, 1) := by decide +kernel
theorem d_D_at_26 : decode c_D_at 26 = .ok (.invokevirtual 108, 3) := by decide +kernel
theorem d_D_at_29 : decode c_D_at 29 = .ok (.ireturn, 1) := by decide +kernel
theorem d_D_parent_0 : decode c_D_parent 0 = .ok (.aload_n 0, 1) := by decide +kernel
theorem d_D_parent_1 : decode c_D_parent 1 = .ok (.getfield 10, 3) := by decide +kernel
theorem d_D_parent_4 : decode c_D_parent 4 = .ok (.iload_n 1, 1) := by decide +kernel
theorem d_D_parent_5 : decode c_D_parent 5 = .ok (.invokevirtual 89, 3) := by decide +kernel
theorem d_D_parent_8 : decode c_D_parent 8 = .ok (.ifCond .eq 12, 3) := by decide +kernel
theorem d_D_parent_11 : decode c_D_parent 11 = .ok (.iload_n 2, 1) := by decide +kernel
theorem d_D_parent_12 : decode c_D_parent 12 = .ok (.ifCond .lt 8, 3) := by decide +kernel
theorem d_D_parent_15 : decode c_D_parent 15 = .ok (.iload_n 2, 1) := by decide +kernel
theorem d_D_parent_16 : decode c_D_parent 16 = .ok (.iconst 1, 1) := by decide +kernel
theorem d_D_parent_17 : decode c_D_parent 17 = .ok (.if_icmp .le 5, 3) := by decide +kernel
theorem d_D_parent_20 : decode c_D_parent 20 = .ok (.iconst (-1), 1) := by decide +kernel
theorem d_D_parent_21 : decode c_D_parent 21 = .ok (.ireturn, 1) := by decide +kernel
theorem d_D_parent_22 : decode c_D_parent 22 = .ok (.aload_n 0, 1) := by decide +kernel
theorem d_D_parent_23 : decode c_D_parent 23 = .ok (.getfield 10, 3) := by decide +kernel
theorem d_D_parent_26 : decode c_D_parent 26 = .ok (.iload_n 1, 1) := by decide +kernel
theorem d_D_parent_27 : decode c_D_parent 27 = .ok (.iload_n 2, 1) := by decide +kernel
theorem d_D_parent_28 : decode c_D_parent 28 = .ok (.invokevirtual 92, 3) := by decide +kernel
theorem d_D_parent_31 : decode c_D_parent 31 = .ok (.ireturn, 1) := by decide +kernel
theorem d_D_branchAt_0 : decode c_D_branchAt 0 = .ok (.iload_n 1, 1) := by decide +kernel
theorem d_D_branchAt_1 : decode c_D_branchAt 1 = .ok (.invokestatic 69, 3) := by decide +kernel
theorem d_D_branchAt_4 : decode c_D_branchAt 4 = .ok (.ifCond .eq 12, 3) := by decide +kernel
theorem d_D_branchAt_7 : decode c_D_branchAt 7 = .ok (.aload_n 0, 1) := by decide +kernel
theorem d_D_branchAt_8 : decode c_D_branchAt 8 = .ok (.getfield 26, 3) := by decide +kernel
theorem d_D_branchAt_11 : decode c_D_branchAt 11 = .ok (.iload_n 1, 1) := by decide +kernel
theorem d_D_branchAt_12 : decode c_D_branchAt 12 = .ok (.iaload, 1) := by decide +kernel
theorem d_D_branchAt_13 : decode c_D_branchAt 13 = .ok (.goto 4, 3) := by decide +kernel
theorem d_D_branchAt_16 : decode c_D_branchAt 16 = .ok (.iconst (-1), 1) := by decide +kernel
theorem d_D_branchAt_17 : decode c_D_branchAt 17 = .ok (.ireturn, 1) := by decide +kernel
theorem d_D_common_0 : decode c_D_common 0 = .ok (.aload_n 0, 1) := by decide +kernel
theorem d_D_common_1 : decode c_D_common 1 = .ok (.getfield 10, 3) := by decide +kernel
theorem d_D_common_4 : decode c_D_common 4 = .ok (.iload_n 1, 1) := by decide +kernel
theorem d_D_common_5 : decode c_D_common 5 = .ok (.invokevirtual 89, 3) := by decide +kernel
theorem d_D_common_8 : decode c_D_common 8 = .ok (.ifCond .eq 14, 3) := by decide +kernel
theorem d_D_common_11 : decode c_D_common 11 = .ok (.aload_n 0, 1) := by decide +kernel
theorem d_D_common_12 : decode c_D_common 12 = .ok (.getfield 10, 3) := by decide +kernel
theorem d_D_common_15 : decode c_D_common 15 = .ok (.iload_n 2, 1) := by decide +kernel
theorem d_D_common_16 : decode c_D_common 16 = .ok (.invokevirtual 89, 3) := by decide +kernel
theorem d_D_common_19 : decode c_D_common 19 = .ok (.ifCond .ne 5, 3) := by decide +kernel
theorem d_D_common_22 : decode c_D_common 22 = .ok (.iconst (-1), 1) := by decide +kernel
theorem d_D_common_23 : decode c_D_common 23 = .ok (.ireturn, 1) := by decide +kernel
theorem d_D_common_24 : decode c_D_common 24 = .ok (.aload_n 0, 1) := by decide +kernel
theorem d_D_common_25 : decode c_D_common 25 = .ok (.getfield 10, 3) := by decide +kernel
theorem d_D_common_28 : decode c_D_common 28 = .ok (.iload_n 1, 1) := by decide +kernel
theorem d_D_common_29 : decode c_D_common 29 = .ok (.iload_n 2, 1) := by decide +kernel
theorem d_D_common_30 : decode c_D_common 30 = .ok (.invokevirtual 111, 3) := by decide +kernel
theorem d_D_common_33 : decode c_D_common 33 = .ok (.ireturn, 1) := by decide +kernel
theorem d_D_differ_0 : decode c_D_differ 0 = .ok (.aload_n 0, 1) := by decide +kernel
theorem d_D_differ_1 : decode c_D_differ 1 = .ok (.getfield 10, 3) := by decide +kernel
theorem d_D_differ_4 : decode c_D_differ 4 = .ok (.iload_n 1, 1) := by decide +kernel
theorem d_D_differ_5 : decode c_D_differ 5 = .ok (.invokevirtual 89, 3) := by decide +kernel
theorem d_D_differ_8 : decode c_D_differ 8 = .ok (.ifCond .eq 14, 3) := by decide +kernel
theorem d_D_differ_11 : decode c_D_differ 11 = .ok (.aload_n 0, 1) := by decide +kernel
theorem d_D_differ_12 : decode c_D_differ 12 = .ok (.getfield 10, 3) := by decide +kernel
theorem d_D_differ_15 : decode c_D_differ 15 = .ok (.iload_n 2, 1) := by decide +kernel
theorem d_D_differ_16 : decode c_D_differ 16 = .ok (.invokevirtual 89, 3) := by decide +kernel
theorem d_D_differ_19 : decode c_D_differ 19 = .ok (.ifCond .ne 5, 3) := by decide +kernel
theorem d_D_differ_22 : decode c_D_differ 22 = .ok (.iconst (-1), 1) := by decide +kernel
theorem d_D_differ_23 : decode c_D_differ 23 = .ok (.ireturn, 1) := by decide +kernel
theorem d_D_differ_24 : decode c_D_differ 24 = .ok (.iconst 0, 1) := by decide +kernel
theorem d_D_differ_25 : decode c_D_differ 25 = .ok (.istore_n 3, 1) := by decide +kernel
theorem d_D_differ_26 : decode c_D_differ 26 = .ok (.iconst 0, 1) := by decide +kernel
theorem d_D_differ_27 : decode c_D_differ 27 = .ok (.istore 4, 2) := by decide +kernel
theorem d_D_differ_29 : decode c_D_differ 29 = .ok (.iload 4, 2) := by decide +kernel
theorem d_D_differ_31 : decode c_D_differ 31 = .ok (.bipush 16, 2) := by decide +kernel
theorem d_D_differ_33 : decode c_D_differ 33 = .ok (.if_icmp .ge 35, 3) := by decide +kernel
theorem d_D_differ_36 : decode c_D_differ 36 = .ok (.aload_n 0, 1) := by decide +kernel
theorem d_D_differ_37 : decode c_D_differ 37 = .ok (.getfield 10, 3) := by decide +kernel
theorem d_D_differ_40 : decode c_D_differ 40 = .ok (.iload_n 1, 1) := by decide +kernel
theorem d_D_differ_41 : decode c_D_differ 41 = .ok (.iload 4, 2) := by decide +kernel
theorem d_D_differ_43 : decode c_D_differ 43 = .ok (.invokevirtual 108, 3) := by decide +kernel
theorem d_D_differ_46 : decode c_D_differ 46 = .ok (.aload_n 0, 1) := by decide +kernel
theorem d_D_differ_47 : decode c_D_differ 47 = .ok (.getfield 10, 3) := by decide +kernel
theorem d_D_differ_50 : decode c_D_differ 50 = .ok (.iload_n 2, 1) := by decide +kernel
theorem d_D_differ_51 : decode c_D_differ 51 = .ok (.iload 4, 2) := by decide +kernel
theorem d_D_differ_53 : decode c_D_differ 53 = .ok (.invokevirtual 108, 3) := by decide +kernel
theorem d_D_differ_56 : decode c_D_differ 56 = .ok (.if_icmp .eq 6, 3) := by decide +kernel
theorem d_D_differ_59 : decode c_D_differ 59 = .ok (.iinc 3 1, 3) := by decide +kernel
theorem d_D_differ_62 : decode c_D_differ 62 = .ok (.iinc 4 1, 3) := by decide +kernel
theorem d_D_differ_65 : decode c_D_differ 65 = .ok (.goto (-36), 3) := by decide +kernel
theorem d_D_differ_68 : decode c_D_differ 68 = .ok (.iload_n 3, 1) := by decide +kernel
theorem d_D_differ_69 : decode c_D_differ 69 = .ok (.ireturn, 1) := by decide +kernel
theorem d_D_clashing_0 : decode c_D_clashing 0 = .ok (.iload_n 1, 1) := by decide +kernel
theorem d_D_clashing_1 : decode c_D_clashing 1 = .ok (.invokestatic 29, 3) := by decide +kernel
theorem d_D_clashing_4 : decode c_D_clashing 4 = .ok (.ifCond .eq 18, 3) := by decide +kernel
theorem d_D_clashing_7 : decode c_D_clashing 7 = .ok (.aload_n 0, 1) := by decide +kernel
theorem d_D_clashing_8 : decode c_D_clashing 8 = .ok (.getfield 43, 3) := by decide +kernel
theorem d_D_clashing_11 : decode c_D_clashing 11 = .ok (.iconst 1, 1) := by decide +kernel
theorem d_D_clashing_12 : decode c_D_clashing 12 = .ok (.iload_n 1, 1) := by decide +kernel
theorem d_D_clashing_13 : decode c_D_clashing 13 = .ok (.ishl, 1) := by decide +kernel
theorem d_D_clashing_14 : decode c_D_clashing 14 = .ok (.iand, 1) := by decide +kernel
theorem d_D_clashing_15 : decode c_D_clashing 15 = .ok (.ifCond .eq 7, 3) := by decide +kernel
theorem d_D_clashing_18 : decode c_D_clashing 18 = .ok (.iconst 1, 1) := by decide +kernel
theorem d_D_clashing_19 : decode c_D_clashing 19 = .ok (.goto 4, 3) := by decide +kernel
theorem d_D_clashing_22 : decode c_D_clashing 22 = .ok (.iconst 0, 1) := by decide +kernel
theorem d_D_clashing_23 : decode c_D_clashing 23 = .ok (.ireturn, 1) := by decide +kernel
theorem d_D_count_0 : decode c_D_count 0 = .ok (.iload_n 1, 1) := by decide +kernel
theorem d_D_count_1 : decode c_D_count 1 = .ok (.tableswitch 132 0 9 #[55, 66, 77, 88, 96, 104, 109, 114, 119, 127], 55) := by decide +kernel
theorem d_D_count_56 : decode c_D_count 56 = .ok (.aload_n 0, 1) := by decide +kernel
theorem d_D_count_57 : decode c_D_count 57 = .ok (.getfield 10, 3) := by decide +kernel
theorem d_D_count_60 : decode c_D_count 60 = .ok (.getfield 33, 3) := by decide +kernel
theorem d_D_count_63 : decode c_D_count 63 = .ok (.invokevirtual 114, 3) := by decide +kernel
theorem d_D_count_66 : decode c_D_count 66 = .ok (.ireturn, 1) := by decide +kernel
theorem d_D_count_67 : decode c_D_count 67 = .ok (.aload_n 0, 1) := by decide +kernel
theorem d_D_count_68 : decode c_D_count 68 = .ok (.getfield 10, 3) := by decide +kernel
theorem d_D_count_71 : decode c_D_count 71 = .ok (.getfield 115, 3) := by decide +kernel
theorem d_D_count_74 : decode c_D_count 74 = .ok (.invokevirtual 119, 3) := by decide +kernel
theorem d_D_count_77 : decode c_D_count 77 = .ok (.ireturn, 1) := by decide +kernel
theorem d_D_count_78 : decode c_D_count 78 = .ok (.aload_n 0, 1) := by decide +kernel
theorem d_D_count_79 : decode c_D_count 79 = .ok (.getfield 10, 3) := by decide +kernel
theorem d_D_count_82 : decode c_D_count 82 = .ok (.getfield 122, 3) := by decide +kernel
theorem d_D_count_85 : decode c_D_count 85 = .ok (.invokevirtual 119, 3) := by decide +kernel
theorem d_D_count_88 : decode c_D_count 88 = .ok (.ireturn, 1) := by decide +kernel
theorem d_D_count_89 : decode c_D_count 89 = .ok (.aload_n 0, 1) := by decide +kernel
theorem d_D_count_90 : decode c_D_count 90 = .ok (.getfield 10, 3) := by decide +kernel
theorem d_D_count_93 : decode c_D_count 93 = .ok (.invokevirtual 125, 3) := by decide +kernel
theorem d_D_count_96 : decode c_D_count 96 = .ok (.ireturn, 1) := by decide +kernel
theorem d_D_count_97 : decode c_D_count 97 = .ok (.aload_n 0, 1) := by decide +kernel
theorem d_D_count_98 : decode c_D_count 98 = .ok (.getfield 10, 3) := by decide +kernel
theorem d_D_count_101 : decode c_D_count 101 = .ok (.getfield 128, 3) := by decide +kernel
theorem d_D_count_104 : decode c_D_count 104 = .ok (.ireturn, 1) := by decide +kernel
theorem d_D_count_105 : decode c_D_count 105 = .ok (.aload_n 0, 1) := by decide +kernel
theorem d_D_count_106 : decode c_D_count 106 = .ok (.getfield 58, 3) := by decide +kernel
theorem d_D_count_109 : decode c_D_count 109 = .ok (.ireturn, 1) := by decide +kernel
theorem d_D_count_110 : decode c_D_count 110 = .ok (.aload_n 0, 1) := by decide +kernel
theorem d_D_count_111 : decode c_D_count 111 = .ok (.invokevirtual 61, 3) := by decide +kernel
theorem d_D_count_114 : decode c_D_count 114 = .ok (.ireturn, 1) := by decide +kernel
theorem d_D_count_115 : decode c_D_count 115 = .ok (.aload_n 0, 1) := by decide +kernel
theorem d_D_count_116 : decode c_D_count 116 = .ok (.getfield 47, 3) := by decide +kernel
theorem d_D_count_119 : decode c_D_count 119 = .ok (.ireturn, 1) := by decide +kernel
theorem d_D_count_120 : decode c_D_count 120 = .ok (.aload_n 0, 1) := by decide +kernel
theorem d_D_count_121 : decode c_D_count 121 = .ok (.getfield 43, 3) := by decide +kernel
theorem d_D_count_124 : decode c_D_count 124 = .ok (.invokestatic 131, 3) := by decide +kernel
theorem d_D_count_127 : decode c_D_count 127 = .ok (.ireturn, 1) := by decide +kernel
theorem d_D_count_128 : decode c_D_count 128 = .ok (.aload_n 0, 1) := by decide +kernel
theorem d_D_count_129 : decode c_D_count 129 = .ok (.invokevirtual 136, 3) := by decide +kernel
theorem d_D_count_132 : decode c_D_count 132 = .ok (.ireturn, 1) := by decide +kernel
theorem d_D_count_133 : decode c_D_count 133 = .ok (.iconst (-1), 1) := by decide +kernel
theorem d_D_count_134 : decode c_D_count 134 = .ok (.ireturn, 1) := by decide +kernel
theorem d_D_isFile_0 : decode c_D_isFile 0 = .ok (.iload_n 0, 1) := by decide +kernel
theorem d_D_isFile_1 : decode c_D_isFile 1 = .ok (.ifCond .lt 13, 3) := by decide +kernel
theorem d_D_isFile_4 : decode c_D_isFile 4 = .ok (.iload_n 0, 1) := by decide +kernel
theorem d_D_isFile_5 : decode c_D_isFile 5 = .ok (.bipush 16, 2) := by decide +kernel
theorem d_D_isFile_7 : decode c_D_isFile 7 = .ok (.if_icmp .ge 7, 3) := by decide +kernel
theorem d_D_isFile_10 : decode c_D_isFile 10 = .ok (.iconst 1, 1) := by decide +kernel
theorem d_D_isFile_11 : decode c_D_isFile 11 = .ok (.goto 4, 3) := by decide +kernel
theorem d_D_isFile_14 : decode c_D_isFile 14 = .ok (.iconst 0, 1) := by decide +kernel
theorem d_D_isFile_15 : decode c_D_isFile 15 = .ok (.ireturn, 1) := by decide +kernel
theorem d_D_isBranch_0 : decode c_D_isBranch 0 = .ok (.iload_n 0, 1) := by decide +kernel
theorem d_D_isBranch_1 : decode c_D_isBranch 1 = .ok (.ifCond .lt 13, 3) := by decide +kernel
theorem d_D_isBranch_4 : decode c_D_isBranch 4 = .ok (.iload_n 0, 1) := by decide +kernel
theorem d_D_isBranch_5 : decode c_D_isBranch 5 = .ok (.bipush 6, 2) := by decide +kernel
theorem d_D_isBranch_7 : decode c_D_isBranch 7 = .ok (.if_icmp .ge 7, 3) := by decide +kernel
theorem d_D_isBranch_10 : decode c_D_isBranch 10 = .ok (.iconst 1, 1) := by decide +kernel
theorem d_D_isBranch_11 : decode c_D_isBranch 11 = .ok (.goto 4, 3) := by decide +kernel
theorem d_D_isBranch_14 : decode c_D_isBranch 14 = .ok (.iconst 0, 1) := by decide +kernel
theorem d_D_isBranch_15 : decode c_D_isBranch 15 = .ok (.ireturn, 1) := by decide +kernel
theorem d_D_isThere_0 : decode c_D_isThere 0 = .ok (.iload_n 1, 1) := by decide +kernel
theorem d_D_isThere_1 : decode c_D_isThere 1 = .ok (.invokestatic 69, 3) := by decide +kernel
theorem d_D_isThere_4 : decode c_D_isThere 4 = .ok (.ifCond .eq 16, 3) := by decide +kernel
theorem d_D_isThere_7 : decode c_D_isThere 7 = .ok (.aload_n 0, 1) := by decide +kernel
theorem d_D_isThere_8 : decode c_D_isThere 8 = .ok (.getfield 26, 3) := by decide +kernel
theorem d_D_isThere_11 : decode c_D_isThere 11 = .ok (.iload_n 1, 1) := by decide +kernel
theorem d_D_isThere_12 : decode c_D_isThere 12 = .ok (.iaload, 1) := by decide +kernel
theorem d_D_isThere_13 : decode c_D_isThere 13 = .ok (.ifCond .eq 7, 3) := by decide +kernel
theorem d_D_isThere_16 : decode c_D_isThere 16 = .ok (.iconst 1, 1) := by decide +kernel
theorem d_D_isThere_17 : decode c_D_isThere 17 = .ok (.goto 4, 3) := by decide +kernel
theorem d_D_isThere_20 : decode c_D_isThere 20 = .ok (.iconst 0, 1) := by decide +kernel
theorem d_D_isThere_21 : decode c_D_isThere 21 = .ok (.ireturn, 1) := by decide +kernel
theorem d_D_here_0 : decode c_D_here 0 = .ok (.aload_n 0, 1) := by decide +kernel
theorem d_D_here_1 : decode c_D_here 1 = .ok (.getfield 26, 3) := by decide +kernel
theorem d_D_here_4 : decode c_D_here 4 = .ok (.aload_n 0, 1) := by decide +kernel
theorem d_D_here_5 : decode c_D_here 5 = .ok (.getfield 58, 3) := by decide +kernel
theorem d_D_here_8 : decode c_D_here 8 = .ok (.iaload, 1) := by decide +kernel
theorem d_D_here_9 : decode c_D_here 9 = .ok (.ireturn, 1) := by decide +kernel
theorem d_D_isTidy_0 : decode c_D_isTidy 0 = .ok (.aload_n 0, 1) := by decide +kernel
theorem d_D_isTidy_1 : decode c_D_isTidy 1 = .ok (.invokevirtual 136, 3) := by decide +kernel
theorem d_D_isTidy_4 : decode c_D_isTidy 4 = .ok (.ifCond .ne 18, 3) := by decide +kernel
theorem d_D_isTidy_7 : decode c_D_isTidy 7 = .ok (.aload_n 0, 1) := by decide +kernel
theorem d_D_isTidy_8 : decode c_D_isTidy 8 = .ok (.aload_n 0, 1) := by decide +kernel
theorem d_D_isTidy_9 : decode c_D_isTidy 9 = .ok (.getfield 20, 3) := by decide +kernel
theorem d_D_isTidy_12 : decode c_D_isTidy 12 = .ok (.invokevirtual 50, 3) := by decide +kernel
theorem d_D_isTidy_15 : decode c_D_isTidy 15 = .ok (.ifCond .eq 7, 3) := by decide +kernel
theorem d_D_isTidy_18 : decode c_D_isTidy 18 = .ok (.iconst 1, 1) := by decide +kernel
theorem d_D_isTidy_19 : decode c_D_isTidy 19 = .ok (.goto 4, 3) := by decide +kernel
theorem d_D_isTidy_22 : decode c_D_isTidy 22 = .ok (.iconst 0, 1) := by decide +kernel
theorem d_D_isTidy_23 : decode c_D_isTidy 23 = .ok (.ireturn, 1) := by decide +kernel
theorem d_D_unstaged_0 : decode c_D_unstaged 0 = .ok (.iconst 0, 1) := by decide +kernel
theorem d_D_unstaged_1 : decode c_D_unstaged 1 = .ok (.istore_n 1, 1) := by decide +kernel
theorem d_D_unstaged_2 : decode c_D_unstaged 2 = .ok (.iconst 0, 1) := by decide +kernel
theorem d_D_unstaged_3 : decode c_D_unstaged 3 = .ok (.istore_n 2, 1) := by decide +kernel
theorem d_D_unstaged_4 : decode c_D_unstaged 4 = .ok (.iload_n 2, 1) := by decide +kernel
theorem d_D_unstaged_5 : decode c_D_unstaged 5 = .ok (.bipush 16, 2) := by decide +kernel
theorem d_D_unstaged_7 : decode c_D_unstaged 7 = .ok (.if_icmp .ge 27, 3) := by decide +kernel
theorem d_D_unstaged_10 : decode c_D_unstaged 10 = .ok (.aload_n 0, 1) := by decide +kernel
theorem d_D_unstaged_11 : decode c_D_unstaged 11 = .ok (.getfield 16, 3) := by decide +kernel
theorem d_D_unstaged_14 : decode c_D_unstaged 14 = .ok (.iload_n 2, 1) := by decide +kernel
theorem d_D_unstaged_15 : decode c_D_unstaged 15 = .ok (.iaload, 1) := by decide +kernel
theorem d_D_unstaged_16 : decode c_D_unstaged 16 = .ok (.aload_n 0, 1) := by decide +kernel
theorem d_D_unstaged_17 : decode c_D_unstaged 17 = .ok (.getfield 20, 3) := by decide +kernel
theorem d_D_unstaged_20 : decode c_D_unstaged 20 = .ok (.iload_n 2, 1) := by decide +kernel
theorem d_D_unstaged_21 : decode c_D_unstaged 21 = .ok (.iaload, 1) := by decide +kernel
theorem d_D_unstaged_22 : decode c_D_unstaged 22 = .ok (.if_icmp .eq 6, 3) := by decide +kernel
theorem d_D_unstaged_25 : decode c_D_unstaged 25 = .ok (.iinc 1 1, 3) := by decide +kernel
theorem d_D_unstaged_28 : decode c_D_unstaged 28 = .ok (.iinc 2 1, 3) := by decide +kernel
theorem d_D_unstaged_31 : decode c_D_unstaged 31 = .ok (.goto (-27), 3) := by decide +kernel
theorem d_D_unstaged_34 : decode c_D_unstaged 34 = .ok (.iload_n 1, 1) := by decide +kernel
theorem d_D_unstaged_35 : decode c_D_unstaged 35 = .ok (.ireturn, 1) := by decide +kernel
theorem d_D_isAsHere_0 : decode c_D_isAsHere 0 = .ok (.iconst 0, 1) := by decide +kernel
theorem d_D_isAsHere_1 : decode c_D_isAsHere 1 = .ok (.istore_n 2, 1) := by decide +kernel
theorem d_D_isAsHere_2 : decode c_D_isAsHere 2 = .ok (.iload_n 2, 1) := by decide +kernel
theorem d_D_isAsHere_3 : decode c_D_isAsHere 3 = .ok (.bipush 16, 2) := by decide +kernel
theorem d_D_isAsHere_5 : decode c_D_isAsHere 5 = .ok (.if_icmp .ge 29, 3) := by decide +kernel
theorem d_D_isAsHere_8 : decode c_D_isAsHere 8 = .ok (.aload_n 1, 1) := by decide +kernel
theorem d_D_isAsHere_9 : decode c_D_isAsHere 9 = .ok (.iload_n 2, 1) := by decide +kernel
theorem d_D_isAsHere_10 : decode c_D_isAsHere 10 = .ok (.iaload, 1) := by decide +kernel
theorem d_D_isAsHere_11 : decode c_D_isAsHere 11 = .ok (.aload_n 0, 1) := by decide +kernel
theorem d_D_isAsHere_12 : decode c_D_isAsHere 12 = .ok (.getfield 10, 3) := by decide +kernel
theorem d_D_isAsHere_15 : decode c_D_isAsHere 15 = .ok (.aload_n 0, 1) := by decide +kernel
theorem d_D_isAsHere_16 : decode c_D_isAsHere 16 = .ok (.invokevirtual 61, 3) := by decide +kernel
theorem d_D_isAsHere_19 : decode c_D_isAsHere 19 = .ok (.iload_n 2, 1) := by decide +kernel
theorem d_D_isAsHere_20 : decode c_D_isAsHere 20 = .ok (.invokevirtual 108, 3) := by decide +kernel
theorem d_D_isAsHere_23 : decode c_D_isAsHere 23 = .ok (.if_icmp .eq 5, 3) := by decide +kernel
theorem d_D_isAsHere_26 : decode c_D_isAsHere 26 = .ok (.iconst 0, 1) := by decide +kernel
theorem d_D_isAsHere_27 : decode c_D_isAsHere 27 = .ok (.ireturn, 1) := by decide +kernel
theorem d_D_isAsHere_28 : decode c_D_isAsHere 28 = .ok (.iinc 2 1, 3) := by decide +kernel
theorem d_D_isAsHere_31 : decode c_D_isAsHere 31 = .ok (.goto (-29), 3) := by decide +kernel
theorem d_D_isAsHere_34 : decode c_D_isAsHere 34 = .ok (.iconst 1, 1) := by decide +kernel
theorem d_D_isAsHere_35 : decode c_D_isAsHere 35 = .ok (.ireturn, 1) := by decide +kernel
theorem d_D_moveTo_0 : decode c_D_moveTo 0 = .ok (.aload_n 0, 1) := by decide +kernel
theorem d_D_moveTo_1 : decode c_D_moveTo 1 = .ok (.getfield 26, 3) := by decide +kernel
theorem d_D_moveTo_4 : decode c_D_moveTo 4 = .ok (.aload_n 0, 1) := by decide +kernel
theorem d_D_moveTo_5 : decode c_D_moveTo 5 = .ok (.getfield 58, 3) := by decide +kernel
theorem d_D_moveTo_8 : decode c_D_moveTo 8 = .ok (.iload_n 1, 1) := by decide +kernel
theorem d_D_moveTo_9 : decode c_D_moveTo 9 = .ok (.iastore, 1) := by decide +kernel
theorem d_D_moveTo_10 : decode c_D_moveTo 10 = .ok (.iconst 0, 1) := by decide +kernel
theorem d_D_moveTo_11 : decode c_D_moveTo 11 = .ok (.istore_n 2, 1) := by decide +kernel
theorem d_D_moveTo_12 : decode c_D_moveTo 12 = .ok (.iload_n 2, 1) := by decide +kernel
theorem d_D_moveTo_13 : decode c_D_moveTo 13 = .ok (.bipush 16, 2) := by decide +kernel
theorem d_D_moveTo_15 : decode c_D_moveTo 15 = .ok (.if_icmp .ge 36, 3) := by decide +kernel
theorem d_D_moveTo_18 : decode c_D_moveTo 18 = .ok (.aload_n 0, 1) := by decide +kernel
theorem d_D_moveTo_19 : decode c_D_moveTo 19 = .ok (.getfield 20, 3) := by decide +kernel
theorem d_D_moveTo_22 : decode c_D_moveTo 22 = .ok (.iload_n 2, 1) := by decide +kernel
theorem d_D_moveTo_23 : decode c_D_moveTo 23 = .ok (.aload_n 0, 1) := by decide +kernel
theorem d_D_moveTo_24 : decode c_D_moveTo 24 = .ok (.getfield 10, 3) := by decide +kernel
theorem d_D_moveTo_27 : decode c_D_moveTo 27 = .ok (.iload_n 1, 1) := by decide +kernel
theorem d_D_moveTo_28 : decode c_D_moveTo 28 = .ok (.iload_n 2, 1) := by decide +kernel
theorem d_D_moveTo_29 : decode c_D_moveTo 29 = .ok (.invokevirtual 108, 3) := by decide +kernel
theorem d_D_moveTo_32 : decode c_D_moveTo 32 = .ok (.iastore, 1) := by decide +kernel
theorem d_D_moveTo_33 : decode c_D_moveTo 33 = .ok (.aload_n 0, 1) := by decide +kernel
theorem d_D_moveTo_34 : decode c_D_moveTo 34 = .ok (.getfield 16, 3) := by decide +kernel
theorem d_D_moveTo_37 : decode c_D_moveTo 37 = .ok (.iload_n 2, 1) := by decide +kernel
theorem d_D_moveTo_38 : decode c_D_moveTo 38 = .ok (.aload_n 0, 1) := by decide +kernel
theorem d_D_moveTo_39 : decode c_D_moveTo 39 = .ok (.getfield 20, 3) := by decide +kernel
theorem d_D_moveTo_42 : decode c_D_moveTo 42 = .ok (.iload_n 2, 1) := by decide +kernel
theorem d_D_moveTo_43 : decode c_D_moveTo 43 = .ok (.iaload, 1) := by decide +kernel
theorem d_D_moveTo_44 : decode c_D_moveTo 44 = .ok (.iastore, 1) := by decide +kernel
theorem d_D_moveTo_45 : decode c_D_moveTo 45 = .ok (.iinc 2 1, 3) := by decide +kernel
theorem d_D_moveTo_48 : decode c_D_moveTo 48 = .ok (.goto (-36), 3) := by decide +kernel
theorem d_D_moveTo_51 : decode c_D_moveTo 51 = .ok (.iload_n 1, 1) := by decide +kernel
theorem d_D_moveTo_52 : decode c_D_moveTo 52 = .ok (.ireturn, 1) := by decide +kernel
theorem d_D_mergeApart_0 : decode c_D_mergeApart 0 = .ok (.aload_n 0, 1) := by decide +kernel
theorem d_D_mergeApart_1 : decode c_D_mergeApart 1 = .ok (.iload_n 1, 1) := by decide +kernel
theorem d_D_mergeApart_2 : decode c_D_mergeApart 2 = .ok (.aload_n 0, 1) := by decide +kernel
theorem d_D_mergeApart_3 : decode c_D_mergeApart 3 = .ok (.getfield 10, 3) := by decide +kernel
theorem d_D_mergeApart_6 : decode c_D_mergeApart 6 = .ok (.aload_n 0, 1) := by decide +kernel
theorem d_D_mergeApart_7 : decode c_D_mergeApart 7 = .ok (.invokevirtual 61, 3) := by decide +kernel
theorem d_D_mergeApart_10 : decode c_D_mergeApart 10 = .ok (.iload_n 1, 1) := by decide +kernel
theorem d_D_mergeApart_11 : decode c_D_mergeApart 11 = .ok (.invokevirtual 111, 3) := by decide +kernel
theorem d_D_mergeApart_14 : decode c_D_mergeApart 14 = .ok (.invokevirtual 96, 3) := by decide +kernel
theorem d_D_mergeApart_17 : decode c_D_mergeApart 17 = .ok (.istore_n 2, 1) := by decide +kernel
theorem d_D_mergeApart_18 : decode c_D_mergeApart 18 = .ok (.iload_n 2, 1) := by decide +kernel
theorem d_D_mergeApart_19 : decode c_D_mergeApart 19 = .ok (.ifCond .ne 39, 3) := by decide +kernel
theorem d_D_mergeApart_22 : decode c_D_mergeApart 22 = .ok (.aload_n 0, 1) := by decide +kernel
theorem d_D_mergeApart_23 : decode c_D_mergeApart 23 = .ok (.getfield 10, 3) := by decide +kernel
theorem d_D_mergeApart_26 : decode c_D_mergeApart 26 = .ok (.invokevirtual 54, 3) := by decide +kernel
theorem d_D_mergeApart_29 : decode c_D_mergeApart 29 = .ok (.ifCond .eq 8, 3) := by decide +kernel
theorem d_D_mergeApart_32 : decode c_D_mergeApart 32 = .ok (.bipush (-2), 2) := by decide +kernel
theorem d_D_mergeApart_34 : decode c_D_mergeApart 34 = .ok (.goto 23, 3) := by decide +kernel
theorem d_D_mergeApart_37 : decode c_D_mergeApart 37 = .ok (.aload_n 0, 1) := by decide +kernel
theorem d_D_mergeApart_38 : decode c_D_mergeApart 38 = .ok (.aload_n 0, 1) := by decide +kernel
theorem d_D_mergeApart_39 : decode c_D_mergeApart 39 = .ok (.getfield 10, 3) := by decide +kernel
theorem d_D_mergeApart_42 : decode c_D_mergeApart 42 = .ok (.aload_n 0, 1) := by decide +kernel
theorem d_D_mergeApart_43 : decode c_D_mergeApart 43 = .ok (.getfield 23, 3) := by decide +kernel
theorem d_D_mergeApart_46 : decode c_D_mergeApart 46 = .ok (.aload_n 0, 1) := by decide +kernel
theorem d_D_mergeApart_47 : decode c_D_mergeApart 47 = .ok (.invokevirtual 61, 3) := by decide +kernel
theorem d_D_mergeApart_50 : decode c_D_mergeApart 50 = .ok (.iload_n 1, 1) := by decide +kernel
theorem d_D_mergeApart_51 : decode c_D_mergeApart 51 = .ok (.invokevirtual 65, 3) := by decide +kernel
theorem d_D_mergeApart_54 : decode c_D_mergeApart 54 = .ok (.invokevirtual 78, 3) := by decide +kernel
theorem d_D_mergeApart_57 : decode c_D_mergeApart 57 = .ok (.ireturn, 1) := by decide +kernel
theorem d_D_mergeApart_58 : decode c_D_mergeApart 58 = .ok (.aload_n 0, 1) := by decide +kernel
theorem d_D_mergeApart_59 : decode c_D_mergeApart 59 = .ok (.getfield 23, 3) := by decide +kernel
theorem d_D_mergeApart_62 : decode c_D_mergeApart 62 = .ok (.iconst 0, 1) := by decide +kernel
theorem d_D_mergeApart_63 : decode c_D_mergeApart 63 = .ok (.aload_n 0, 1) := by decide +kernel
theorem d_D_mergeApart_64 : decode c_D_mergeApart 64 = .ok (.getfield 20, 3) := by decide +kernel
theorem d_D_mergeApart_67 : decode c_D_mergeApart 67 = .ok (.iconst 0, 1) := by decide +kernel
theorem d_D_mergeApart_68 : decode c_D_mergeApart 68 = .ok (.bipush 16, 2) := by decide +kernel
theorem d_D_mergeApart_70 : decode c_D_mergeApart 70 = .ok (.invokestatic 139, 3) := by decide +kernel
theorem d_D_mergeApart_73 : decode c_D_mergeApart 73 = .ok (.aload_n 0, 1) := by decide +kernel
theorem d_D_mergeApart_74 : decode c_D_mergeApart 74 = .ok (.getfield 23, 3) := by decide +kernel
theorem d_D_mergeApart_77 : decode c_D_mergeApart 77 = .ok (.iconst 0, 1) := by decide +kernel
theorem d_D_mergeApart_78 : decode c_D_mergeApart 78 = .ok (.aload_n 0, 1) := by decide +kernel
theorem d_D_mergeApart_79 : decode c_D_mergeApart 79 = .ok (.getfield 16, 3) := by decide +kernel
theorem d_D_mergeApart_82 : decode c_D_mergeApart 82 = .ok (.iconst 0, 1) := by decide +kernel
theorem d_D_mergeApart_83 : decode c_D_mergeApart 83 = .ok (.bipush 16, 2) := by decide +kernel
theorem d_D_mergeApart_85 : decode c_D_mergeApart 85 = .ok (.invokestatic 139, 3) := by decide +kernel
theorem d_D_mergeApart_88 : decode c_D_mergeApart 88 = .ok (.aload_n 0, 1) := by decide +kernel
theorem d_D_mergeApart_89 : decode c_D_mergeApart 89 = .ok (.iload_n 1, 1) := by decide +kernel
theorem d_D_mergeApart_90 : decode c_D_mergeApart 90 = .ok (.putfield 47, 3) := by decide +kernel
theorem d_D_mergeApart_93 : decode c_D_mergeApart 93 = .ok (.aload_n 0, 1) := by decide +kernel
theorem d_D_mergeApart_94 : decode c_D_mergeApart 94 = .ok (.iload_n 2, 1) := by decide +kernel
theorem d_D_mergeApart_95 : decode c_D_mergeApart 95 = .ok (.putfield 43, 3) := by decide +kernel
theorem d_D_mergeApart_98 : decode c_D_mergeApart 98 = .ok (.bipush (-5), 2) := by decide +kernel
theorem d_D_mergeApart_100 : decode c_D_mergeApart 100 = .ok (.ireturn, 1) := by decide +kernel
theorem d_D_mixHereWith_0 : decode c_D_mixHereWith 0 = .ok (.iconst 0, 1) := by decide +kernel
theorem d_D_mixHereWith_1 : decode c_D_mixHereWith 1 = .ok (.istore_n 3, 1) := by decide +kernel
theorem d_D_mixHereWith_2 : decode c_D_mixHereWith 2 = .ok (.iconst 0, 1) := by decide +kernel
theorem d_D_mixHereWith_3 : decode c_D_mixHereWith 3 = .ok (.istore 4, 2) := by decide +kernel
theorem d_D_mixHereWith_5 : decode c_D_mixHereWith 5 = .ok (.iload 4, 2) := by decide +kernel
theorem d_D_mixHereWith_7 : decode c_D_mixHereWith 7 = .ok (.bipush 16, 2) := by decide +kernel
theorem d_D_mixHereWith_9 : decode c_D_mixHereWith 9 = .ok (.if_icmp .ge 97, 3) := by decide +kernel
theorem d_D_mixHereWith_12 : decode c_D_mixHereWith 12 = .ok (.aload_n 0, 1) := by decide +kernel
theorem d_D_mixHereWith_13 : decode c_D_mixHereWith 13 = .ok (.getfield 10, 3) := by decide +kernel
theorem d_D_mixHereWith_16 : decode c_D_mixHereWith 16 = .ok (.aload_n 0, 1) := by decide +kernel
theorem d_D_mixHereWith_17 : decode c_D_mixHereWith 17 = .ok (.invokevirtual 61, 3) := by decide +kernel
theorem d_D_mixHereWith_20 : decode c_D_mixHereWith 20 = .ok (.iload 4, 2) := by decide +kernel
theorem d_D_mixHereWith_22 : decode c_D_mixHereWith 22 = .ok (.invokevirtual 108, 3) := by decide +kernel
theorem d_D_mixHereWith_25 : decode c_D_mixHereWith 25 = .ok (.istore 5, 2) := by decide +kernel
theorem d_D_mixHereWith_27 : decode c_D_mixHereWith 27 = .ok (.aload_n 0, 1) := by decide +kernel
theorem d_D_mixHereWith_28 : decode c_D_mixHereWith 28 = .ok (.getfield 10, 3) := by decide +kernel
theorem d_D_mixHereWith_31 : decode c_D_mixHereWith 31 = .ok (.iload_n 1, 1) := by decide +kernel
theorem d_D_mixHereWith_32 : decode c_D_mixHereWith 32 = .ok (.iload 4, 2) := by decide +kernel
theorem d_D_mixHereWith_34 : decode c_D_mixHereWith 34 = .ok (.invokevirtual 108, 3) := by decide +kernel
theorem d_D_mixHereWith_37 : decode c_D_mixHereWith 37 = .ok (.istore 6, 2) := by decide +kernel
theorem d_D_mixHereWith_39 : decode c_D_mixHereWith 39 = .ok (.aload_n 0, 1) := by decide +kernel
theorem d_D_mixHereWith_40 : decode c_D_mixHereWith 40 = .ok (.getfield 10, 3) := by decide +kernel
theorem d_D_mixHereWith_43 : decode c_D_mixHereWith 43 = .ok (.iload_n 2, 1) := by decide +kernel
theorem d_D_mixHereWith_44 : decode c_D_mixHereWith 44 = .ok (.iload 4, 2) := by decide +kernel
theorem d_D_mixHereWith_46 : decode c_D_mixHereWith 46 = .ok (.invokevirtual 108, 3) := by decide +kernel
theorem d_D_mixHereWith_49 : decode c_D_mixHereWith 49 = .ok (.istore 7, 2) := by decide +kernel
theorem d_D_mixHereWith_51 : decode c_D_mixHereWith 51 = .ok (.aload_n 0, 1) := by decide +kernel
theorem d_D_mixHereWith_52 : decode c_D_mixHereWith 52 = .ok (.getfield 23, 3) := by decide +kernel
theorem d_D_mixHereWith_55 : decode c_D_mixHereWith 55 = .ok (.iload 4, 2) := by decide +kernel
theorem d_D_mixHereWith_57 : decode c_D_mixHereWith 57 = .ok (.iload 5, 2) := by decide +kernel
theorem d_D_mixHereWith_59 : decode c_D_mixHereWith 59 = .ok (.iload 7, 2) := by decide +kernel
theorem d_D_mixHereWith_61 : decode c_D_mixHereWith 61 = .ok (.if_icmp .ne 8, 3) := by decide +kernel
theorem d_D_mixHereWith_64 : decode c_D_mixHereWith 64 = .ok (.iload 6, 2) := by decide +kernel
theorem d_D_mixHereWith_66 : decode c_D_mixHereWith 66 = .ok (.goto 5, 3) := by decide +kernel
theorem d_D_mixHereWith_69 : decode c_D_mixHereWith 69 = .ok (.iload 5, 2) := by decide +kernel
theorem d_D_mixHereWith_71 : decode c_D_mixHereWith 71 = .ok (.iastore, 1) := by decide +kernel
theorem d_D_mixHereWith_72 : decode c_D_mixHereWith 72 = .ok (.iload 5, 2) := by decide +kernel
theorem d_D_mixHereWith_74 : decode c_D_mixHereWith 74 = .ok (.iload 6, 2) := by decide +kernel
theorem d_D_mixHereWith_76 : decode c_D_mixHereWith 76 = .ok (.if_icmp .eq 24, 3) := by decide +kernel
theorem d_D_mixHereWith_79 : decode c_D_mixHereWith 79 = .ok (.iload 5, 2) := by decide +kernel
theorem d_D_mixHereWith_81 : decode c_D_mixHereWith 81 = .ok (.iload 7, 2) := by decide +kernel
theorem d_D_mixHereWith_83 : decode c_D_mixHereWith 83 = .ok (.if_icmp .eq 17, 3) := by decide +kernel
theorem d_D_mixHereWith_86 : decode c_D_mixHereWith 86 = .ok (.iload 6, 2) := by decide +kernel
theorem d_D_mixHereWith_88 : decode c_D_mixHereWith 88 = .ok (.iload 7, 2) := by decide +kernel
theorem d_D_mixHereWith_90 : decode c_D_mixHereWith 90 = .ok (.if_icmp .eq 10, 3) := by decide +kernel
theorem d_D_mixHereWith_93 : decode c_D_mixHereWith 93 = .ok (.iload_n 3, 1) := by decide +kernel
theorem d_D_mixHereWith_94 : decode c_D_mixHereWith 94 = .ok (.iconst 1, 1) := by decide +kernel
theorem d_D_mixHereWith_95 : decode c_D_mixHereWith 95 = .ok (.iload 4, 2) := by decide +kernel
theorem d_D_mixHereWith_97 : decode c_D_mixHereWith 97 = .ok (.ishl, 1) := by decide +kernel
theorem d_D_mixHereWith_98 : decode c_D_mixHereWith 98 = .ok (.ior, 1) := by decide +kernel
theorem d_D_mixHereWith_99 : decode c_D_mixHereWith 99 = .ok (.istore_n 3, 1) := by decide +kernel
theorem d_D_mixHereWith_100 : decode c_D_mixHereWith 100 = .ok (.iinc 4 1, 3) := by decide +kernel
theorem d_D_mixHereWith_103 : decode c_D_mixHereWith 103 = .ok (.goto (-98), 3) := by decide +kernel
theorem d_D_mixHereWith_106 : decode c_D_mixHereWith 106 = .ok (.iload_n 3, 1) := by decide +kernel
theorem d_D_mixHereWith_107 : decode c_D_mixHereWith 107 = .ok (.ireturn, 1) := by decide +kernel
theorem d_M_init_0 : decode c_M_init 0 = .ok (.aload_n 0, 1) := by decide +kernel
theorem d_M_init_1 : decode c_M_init 1 = .ok (.invokespecial 1, 3) := by decide +kernel
theorem d_M_init_4 : decode c_M_init 4 = .ok (.aload_n 0, 1) := by decide +kernel
theorem d_M_init_5 : decode c_M_init 5 = .ok (.sipush 544, 3) := by decide +kernel
theorem d_M_init_8 : decode c_M_init 8 = .ok (.newarray .int, 2) := by decide +kernel
theorem d_M_init_10 : decode c_M_init 10 = .ok (.putfield 7, 3) := by decide +kernel
theorem d_M_init_13 : decode c_M_init 13 = .ok (.aload_n 0, 1) := by decide +kernel
theorem d_M_init_14 : decode c_M_init 14 = .ok (.bipush 31, 2) := by decide +kernel
theorem d_M_init_16 : decode c_M_init 16 = .ok (.newarray .boolean, 2) := by decide +kernel
theorem d_M_init_18 : decode c_M_init 18 = .ok (.putfield 13, 3) := by decide +kernel
theorem d_M_init_21 : decode c_M_init 21 = .ok (.aload_n 0, 1) := by decide +kernel
theorem d_M_init_22 : decode c_M_init 22 = .ok (.bipush 31, 2) := by decide +kernel
theorem d_M_init_24 : decode c_M_init 24 = .ok (.newarray .int, 2) := by decide +kernel
theorem d_M_init_26 : decode c_M_init 26 = .ok (.putfield 17, 3) := by decide +kernel
theorem d_M_init_29 : decode c_M_init 29 = .ok (.aload_n 0, 1) := by decide +kernel
theorem d_M_init_30 : decode c_M_init 30 = .ok (.bipush 31, 2) := by decide +kernel
theorem d_M_init_32 : decode c_M_init 32 = .ok (.newarray .int, 2) := by decide +kernel
theorem d_M_init_34 : decode c_M_init 34 = .ok (.putfield 20, 3) := by decide +kernel
theorem d_M_init_37 : decode c_M_init 37 = .ok (.aload_n 0, 1) := by decide +kernel
theorem d_M_init_38 : decode c_M_init 38 = .ok (.bipush 6, 2) := by decide +kernel
theorem d_M_init_40 : decode c_M_init 40 = .ok (.newarray .int, 2) := by decide +kernel
theorem d_M_init_42 : decode c_M_init 42 = .ok (.putfield 23, 3) := by decide +kernel
theorem d_M_init_45 : decode c_M_init 45 = .ok (.aload_n 0, 1) := by decide +kernel
theorem d_M_init_46 : decode c_M_init 46 = .ok (.bipush 16, 2) := by decide +kernel
theorem d_M_init_48 : decode c_M_init 48 = .ok (.newarray .boolean, 2) := by decide +kernel
theorem d_M_init_50 : decode c_M_init 50 = .ok (.putfield 26, 3) := by decide +kernel
theorem d_M_init_53 : decode c_M_init 53 = .ok (.aload_n 0, 1) := by decide +kernel
theorem d_M_init_54 : decode c_M_init 54 = .ok (.sipush 10000, 3) := by decide +kernel
theorem d_M_init_57 : decode c_M_init 57 = .ok (.newarray .boolean, 2) := by decide +kernel
theorem d_M_init_59 : decode c_M_init 59 = .ok (.putfield 29, 3) := by decide +kernel
theorem d_M_init_62 : decode c_M_init 62 = .ok (.aload_n 0, 1) := by decide +kernel
theorem d_M_init_63 : decode c_M_init 63 = .ok (.bipush 31, 2) := by decide +kernel
theorem d_M_init_65 : decode c_M_init 65 = .ok (.newarray .boolean, 2) := by decide +kernel
theorem d_M_init_67 : decode c_M_init 67 = .ok (.putfield 32, 3) := by decide +kernel
theorem d_M_init_70 : decode c_M_init 70 = .ok (.aload_n 0, 1) := by decide +kernel
theorem d_M_init_71 : decode c_M_init 71 = .ok (.bipush 31, 2) := by decide +kernel
theorem d_M_init_73 : decode c_M_init 73 = .ok (.newarray .boolean, 2) := by decide +kernel
theorem d_M_init_75 : decode c_M_init 75 = .ok (.putfield 35, 3) := by decide +kernel
theorem d_M_init_78 : decode c_M_init 78 = .ok (.return_, 1) := by decide +kernel
theorem d_M_in_0 : decode c_M_in 0 = .ok (.iload_n 0, 1) := by decide +kernel
theorem d_M_in_1 : decode c_M_in 1 = .ok (.iload_n 1, 1) := by decide +kernel
theorem d_M_in_2 : decode c_M_in 2 = .ok (.if_icmp .lt 12, 3) := by decide +kernel
theorem d_M_in_5 : decode c_M_in 5 = .ok (.iload_n 0, 1) := by decide +kernel
theorem d_M_in_6 : decode c_M_in 6 = .ok (.iload_n 2, 1) := by decide +kernel
theorem d_M_in_7 : decode c_M_in 7 = .ok (.if_icmp .gt 7, 3) := by decide +kernel
theorem d_M_in_10 : decode c_M_in 10 = .ok (.iconst 1, 1) := by decide +kernel
theorem d_M_in_11 : decode c_M_in 11 = .ok (.goto 4, 3) := by decide +kernel
theorem d_M_in_14 : decode c_M_in 14 = .ok (.iconst 0, 1) := by decide +kernel
theorem d_M_in_15 : decode c_M_in 15 = .ok (.ireturn, 1) := by decide +kernel
theorem d_M_here_0 : decode c_M_here 0 = .ok (.aload_n 0, 1) := by decide +kernel
theorem d_M_here_1 : decode c_M_here 1 = .ok (.getfield 23, 3) := by decide +kernel
theorem d_M_here_4 : decode c_M_here 4 = .ok (.aload_n 0, 1) := by decide +kernel
theorem d_M_here_5 : decode c_M_here 5 = .ok (.getfield 38, 3) := by decide +kernel
theorem d_M_here_8 : decode c_M_here 8 = .ok (.iaload, 1) := by decide +kernel
theorem d_M_here_9 : decode c_M_here 9 = .ok (.ireturn, 1) := by decide +kernel
theorem d_M_isStored_0 : decode c_M_isStored 0 = .ok (.iload_n 1, 1) := by decide +kernel
theorem d_M_isStored_1 : decode c_M_isStored 1 = .ok (.iconst 1, 1) := by decide +kernel
theorem d_M_isStored_2 : decode c_M_isStored 2 = .ok (.bipush 30, 2) := by decide +kernel
theorem d_M_isStored_4 : decode c_M_isStored 4 = .ok (.invokestatic 42, 3) := by decide +kernel
theorem d_M_isStored_7 : decode c_M_isStored 7 = .ok (.ifCond .eq 16, 3) := by decide +kernel
theorem d_M_isStored_10 : decode c_M_isStored 10 = .ok (.aload_n 0, 1) := by decide +kernel
theorem d_M_isStored_11 : decode c_M_isStored 11 = .ok (.getfield 13, 3) := by decide +kernel
theorem d_M_isStored_14 : decode c_M_isStored 14 = .ok (.iload_n 1, 1) := by decide +kernel
theorem d_M_isStored_15 : decode c_M_isStored 15 = .ok (.baload, 1) := by decide +kernel
theorem d_M_isStored_16 : decode c_M_isStored 16 = .ok (.ifCond .eq 7, 3) := by decide +kernel
theorem d_M_isStored_19 : decode c_M_isStored 19 = .ok (.iconst 1, 1) := by decide +kernel
theorem d_M_isStored_20 : decode c_M_isStored 20 = .ok (.goto 4, 3) := by decide +kernel
theorem d_M_isStored_23 : decode c_M_isStored 23 = .ok (.iconst 0, 1) := by decide +kernel
theorem d_M_isStored_24 : decode c_M_isStored 24 = .ok (.ireturn, 1) := by decide +kernel
theorem d_M_same_0 : decode c_M_same 0 = .ok (.iconst 0, 1) := by decide +kernel
theorem d_M_same_1 : decode c_M_same 1 = .ok (.istore_n 3, 1) := by decide +kernel
theorem d_M_same_2 : decode c_M_same 2 = .ok (.iload_n 3, 1) := by decide +kernel
theorem d_M_same_3 : decode c_M_same 3 = .ok (.bipush 16, 2) := by decide +kernel
theorem d_M_same_5 : decode c_M_same 5 = .ok (.if_icmp .ge 36, 3) := by decide +kernel
theorem d_M_same_8 : decode c_M_same 8 = .ok (.aload_n 0, 1) := by decide +kernel
theorem d_M_same_9 : decode c_M_same 9 = .ok (.getfield 7, 3) := by decide +kernel
theorem d_M_same_12 : decode c_M_same 12 = .ok (.bipush 16, 2) := by decide +kernel
theorem d_M_same_14 : decode c_M_same 14 = .ok (.iload_n 1, 1) := by decide +kernel
theorem d_M_same_15 : decode c_M_same 15 = .ok (.imul, 1) := by decide +kernel
theorem d_M_same_16 : decode c_M_same 16 = .ok (.iload_n 3, 1) := by decide +kernel
theorem d_M_same_17 : decode c_M_same 17 = .ok (.iadd, 1) := by decide +kernel
theorem d_M_same_18 : decode c_M_same 18 = .ok (.iaload, 1) := by decide +kernel
theorem d_M_same_19 : decode c_M_same 19 = .ok (.aload_n 0, 1) := by decide +kernel
theorem d_M_same_20 : decode c_M_same 20 = .ok (.getfield 7, 3) := by decide +kernel
theorem d_M_same_23 : decode c_M_same 23 = .ok (.bipush 16, 2) := by decide +kernel
theorem d_M_same_25 : decode c_M_same 25 = .ok (.iload_n 2, 1) := by decide +kernel
theorem d_M_same_26 : decode c_M_same 26 = .ok (.imul, 1) := by decide +kernel
theorem d_M_same_27 : decode c_M_same 27 = .ok (.iload_n 3, 1) := by decide +kernel
theorem d_M_same_28 : decode c_M_same 28 = .ok (.iadd, 1) := by decide +kernel
theorem d_M_same_29 : decode c_M_same 29 = .ok (.iaload, 1) := by decide +kernel
theorem d_M_same_30 : decode c_M_same 30 = .ok (.if_icmp .eq 5, 3) := by decide +kernel
theorem d_M_same_33 : decode c_M_same 33 = .ok (.iconst 0, 1) := by decide +kernel
theorem d_M_same_34 : decode c_M_same 34 = .ok (.ireturn, 1) := by decide +kernel
theorem d_M_same_35 : decode c_M_same 35 = .ok (.iinc 3 1, 3) := by decide +kernel
theorem d_M_same_38 : decode c_M_same 38 = .ok (.goto (-36), 3) := by decide +kernel
theorem d_M_same_41 : decode c_M_same 41 = .ok (.iconst 1, 1) := by decide +kernel
theorem d_M_same_42 : decode c_M_same 42 = .ok (.ireturn, 1) := by decide +kernel
theorem d_M_copy_0 : decode c_M_copy 0 = .ok (.iconst 0, 1) := by decide +kernel
theorem d_M_copy_1 : decode c_M_copy 1 = .ok (.istore_n 3, 1) := by decide +kernel
theorem d_M_copy_2 : decode c_M_copy 2 = .ok (.iload_n 3, 1) := by decide +kernel
theorem d_M_copy_3 : decode c_M_copy 3 = .ok (.bipush 16, 2) := by decide +kernel
theorem d_M_copy_5 : decode c_M_copy 5 = .ok (.if_icmp .ge 31, 3) := by decide +kernel
theorem d_M_copy_8 : decode c_M_copy 8 = .ok (.aload_n 0, 1) := by decide +kernel
theorem d_M_copy_9 : decode c_M_copy 9 = .ok (.getfield 7, 3) := by decide +kernel
theorem d_M_copy_12 : decode c_M_copy 12 = .ok (.bipush 16, 2) := by decide +kernel
theorem d_M_copy_14 : decode c_M_copy 14 = .ok (.iload_n 2, 1) := by decide +kernel
theorem d_M_copy_15 : decode c_M_copy 15 = .ok (.imul, 1) := by decide +kernel
theorem d_M_copy_16 : decode c_M_copy 16 = .ok (.iload_n 3, 1) := by decide +kernel
theorem d_M_copy_17 : decode c_M_copy 17 = .ok (.iadd, 1) := by decide +kernel
theorem d_M_copy_18 : decode c_M_copy 18 = .ok (.aload_n 0, 1) := by decide +kernel
theorem d_M_copy_19 : decode c_M_copy 19 = .ok (.getfield 7, 3) := by decide +kernel
end
section
theorem d_M_copy_22 : decode c_M_copy 22 = .ok (.bipush 16, 2) := by decide +kernel
theorem d_M_copy_24 : decode c_M_copy 24 = .ok (.iload_n 1, 1) := by decide +kernel
theorem d_M_copy_25 : decode c_M_copy 25 = .ok (.imul, 1) := by decide +kernel
theorem d_M_copy_26 : decode c_M_copy 26 = .ok (.iload_n 3, 1) := by decide +kernel
theorem d_M_copy_27 : decode c_M_copy 27 = .ok (.iadd, 1) := by decide +kernel
theorem d_M_copy_28 : decode c_M_copy 28 = .ok (.iaload, 1) := by decide +kernel
theorem d_M_copy_29 : decode c_M_copy 29 = .ok (.iastore, 1) := by decide +kernel
theorem d_M_copy_30 : decode c_M_copy 30 = .ok (.iinc 3 1, 3) := by decide +kernel
theorem d_M_copy_33 : decode c_M_copy 33 = .ok (.goto (-31), 3) := by decide +kernel
theorem d_M_copy_36 : decode c_M_copy 36 = .ok (.return_, 1) := by decide +kernel
theorem d_M_show_0 : decode c_M_show 0 = .ok (.aload_n 0, 1) := by decide +kernel
theorem d_M_show_1 : decode c_M_show 1 = .ok (.iload_n 1, 1) := by decide +kernel
theorem d_M_show_2 : decode c_M_show 2 = .ok (.bipush 32, 2) := by decide +kernel
theorem d_M_show_4 : decode c_M_show 4 = .ok (.invokevirtual 46, 3) := by decide +kernel
theorem d_M_show_7 : decode c_M_show 7 = .ok (.aload_n 0, 1) := by decide +kernel
theorem d_M_show_8 : decode c_M_show 8 = .ok (.iload_n 1, 1) := by decide +kernel
theorem d_M_show_9 : decode c_M_show 9 = .ok (.bipush 31, 2) := by decide +kernel
theorem d_M_show_11 : decode c_M_show 11 = .ok (.invokevirtual 46, 3) := by decide +kernel
theorem d_M_show_14 : decode c_M_show 14 = .ok (.return_, 1) := by decide +kernel
theorem d_M_tidy_0 : decode c_M_tidy 0 = .ok (.aload_n 0, 1) := by decide +kernel
theorem d_M_tidy_1 : decode c_M_tidy 1 = .ok (.bipush 31, 2) := by decide +kernel
theorem d_M_tidy_3 : decode c_M_tidy 3 = .ok (.bipush 32, 2) := by decide +kernel
theorem d_M_tidy_5 : decode c_M_tidy 5 = .ok (.invokevirtual 50, 3) := by decide +kernel
theorem d_M_tidy_8 : decode c_M_tidy 8 = .ok (.ifCond .eq 20, 3) := by decide +kernel
theorem d_M_tidy_11 : decode c_M_tidy 11 = .ok (.aload_n 0, 1) := by decide +kernel
theorem d_M_tidy_12 : decode c_M_tidy 12 = .ok (.bipush 32, 2) := by decide +kernel
theorem d_M_tidy_14 : decode c_M_tidy 14 = .ok (.aload_n 0, 1) := by decide +kernel
theorem d_M_tidy_15 : decode c_M_tidy 15 = .ok (.invokevirtual 54, 3) := by decide +kernel
theorem d_M_tidy_18 : decode c_M_tidy 18 = .ok (.invokevirtual 50, 3) := by decide +kernel
theorem d_M_tidy_21 : decode c_M_tidy 21 = .ok (.ifCond .eq 7, 3) := by decide +kernel
theorem d_M_tidy_24 : decode c_M_tidy 24 = .ok (.iconst 1, 1) := by decide +kernel
theorem d_M_tidy_25 : decode c_M_tidy 25 = .ok (.goto 4, 3) := by decide +kernel
theorem d_M_tidy_28 : decode c_M_tidy 28 = .ok (.iconst 0, 1) := by decide +kernel
theorem d_M_tidy_29 : decode c_M_tidy 29 = .ok (.ireturn, 1) := by decide +kernel
theorem d_M_write_0 : decode c_M_write 0 = .ok (.iload_n 1, 1) := by decide +kernel
theorem d_M_write_1 : decode c_M_write 1 = .ok (.iconst 0, 1) := by decide +kernel
theorem d_M_write_2 : decode c_M_write 2 = .ok (.bipush 15, 2) := by decide +kernel
theorem d_M_write_4 : decode c_M_write 4 = .ok (.invokestatic 42, 3) := by decide +kernel
theorem d_M_write_7 : decode c_M_write 7 = .ok (.ifCond .eq 14, 3) := by decide +kernel
theorem d_M_write_10 : decode c_M_write 10 = .ok (.iload_n 2, 1) := by decide +kernel
theorem d_M_write_11 : decode c_M_write 11 = .ok (.iconst 0, 1) := by decide +kernel
theorem d_M_write_12 : decode c_M_write 12 = .ok (.sipush 9999, 3) := by decide +kernel
theorem d_M_write_15 : decode c_M_write 15 = .ok (.invokestatic 42, 3) := by decide +kernel
theorem d_M_write_18 : decode c_M_write 18 = .ok (.ifCond .ne 5, 3) := by decide +kernel
theorem d_M_write_21 : decode c_M_write 21 = .ok (.iconst (-1), 1) := by decide +kernel
theorem d_M_write_22 : decode c_M_write 22 = .ok (.ireturn, 1) := by decide +kernel
theorem d_M_write_23 : decode c_M_write 23 = .ok (.aload_n 0, 1) := by decide +kernel
theorem d_M_write_24 : decode c_M_write 24 = .ok (.getfield 7, 3) := by decide +kernel
theorem d_M_write_27 : decode c_M_write 27 = .ok (.sipush 496, 3) := by decide +kernel
theorem d_M_write_30 : decode c_M_write 30 = .ok (.iload_n 1, 1) := by decide +kernel
theorem d_M_write_31 : decode c_M_write 31 = .ok (.iadd, 1) := by decide +kernel
theorem d_M_write_32 : decode c_M_write 32 = .ok (.iload_n 2, 1) := by decide +kernel
theorem d_M_write_33 : decode c_M_write 33 = .ok (.iastore, 1) := by decide +kernel
theorem d_M_write_34 : decode c_M_write 34 = .ok (.iconst 0, 1) := by decide +kernel
theorem d_M_write_35 : decode c_M_write 35 = .ok (.ireturn, 1) := by decide +kernel
theorem d_M_stage_0 : decode c_M_stage 0 = .ok (.iload_n 1, 1) := by decide +kernel
theorem d_M_stage_1 : decode c_M_stage 1 = .ok (.iconst 0, 1) := by decide +kernel
theorem d_M_stage_2 : decode c_M_stage 2 = .ok (.bipush 15, 2) := by decide +kernel
theorem d_M_stage_4 : decode c_M_stage 4 = .ok (.invokestatic 42, 3) := by decide +kernel
theorem d_M_stage_7 : decode c_M_stage 7 = .ok (.ifCond .ne 5, 3) := by decide +kernel
theorem d_M_stage_10 : decode c_M_stage 10 = .ok (.iconst (-1), 1) := by decide +kernel
theorem d_M_stage_11 : decode c_M_stage 11 = .ok (.ireturn, 1) := by decide +kernel
theorem d_M_stage_12 : decode c_M_stage 12 = .ok (.aload_n 0, 1) := by decide +kernel
theorem d_M_stage_13 : decode c_M_stage 13 = .ok (.getfield 7, 3) := by decide +kernel
theorem d_M_stage_16 : decode c_M_stage 16 = .ok (.sipush 496, 3) := by decide +kernel
theorem d_M_stage_19 : decode c_M_stage 19 = .ok (.iload_n 1, 1) := by decide +kernel
theorem d_M_stage_20 : decode c_M_stage 20 = .ok (.iadd, 1) := by decide +kernel
theorem d_M_stage_21 : decode c_M_stage 21 = .ok (.iaload, 1) := by decide +kernel
theorem d_M_stage_22 : decode c_M_stage 22 = .ok (.istore_n 2, 1) := by decide +kernel
theorem d_M_stage_23 : decode c_M_stage 23 = .ok (.aload_n 0, 1) := by decide +kernel
theorem d_M_stage_24 : decode c_M_stage 24 = .ok (.getfield 7, 3) := by decide +kernel
theorem d_M_stage_27 : decode c_M_stage 27 = .ok (.sipush 512, 3) := by decide +kernel
theorem d_M_stage_30 : decode c_M_stage 30 = .ok (.iload_n 1, 1) := by decide +kernel
theorem d_M_stage_31 : decode c_M_stage 31 = .ok (.iadd, 1) := by decide +kernel
theorem d_M_stage_32 : decode c_M_stage 32 = .ok (.iload_n 2, 1) := by decide +kernel
theorem d_M_stage_33 : decode c_M_stage 33 = .ok (.iastore, 1) := by decide +kernel
theorem d_M_stage_34 : decode c_M_stage 34 = .ok (.iload_n 2, 1) := by decide +kernel
theorem d_M_stage_35 : decode c_M_stage 35 = .ok (.ifCond .le 10, 3) := by decide +kernel
theorem d_M_stage_38 : decode c_M_stage 38 = .ok (.aload_n 0, 1) := by decide +kernel
theorem d_M_stage_39 : decode c_M_stage 39 = .ok (.getfield 29, 3) := by decide +kernel
theorem d_M_stage_42 : decode c_M_stage 42 = .ok (.iload_n 2, 1) := by decide +kernel
theorem d_M_stage_43 : decode c_M_stage 43 = .ok (.iconst 1, 1) := by decide +kernel
theorem d_M_stage_44 : decode c_M_stage 44 = .ok (.bastore, 1) := by decide +kernel
theorem d_M_stage_45 : decode c_M_stage 45 = .ok (.aload_n 0, 1) := by decide +kernel
theorem d_M_stage_46 : decode c_M_stage 46 = .ok (.getfield 26, 3) := by decide +kernel
theorem d_M_stage_49 : decode c_M_stage 49 = .ok (.iload_n 1, 1) := by decide +kernel
theorem d_M_stage_50 : decode c_M_stage 50 = .ok (.iconst 0, 1) := by decide +kernel
theorem d_M_stage_51 : decode c_M_stage 51 = .ok (.bastore, 1) := by decide +kernel
theorem d_M_stage_52 : decode c_M_stage 52 = .ok (.iconst 0, 1) := by decide +kernel
theorem d_M_stage_53 : decode c_M_stage 53 = .ok (.ireturn, 1) := by decide +kernel
theorem d_M_make_0 : decode c_M_make 0 = .ok (.aload_n 0, 1) := by decide +kernel
theorem d_M_make_1 : decode c_M_make 1 = .ok (.dup, 1) := by decide +kernel
theorem d_M_make_2 : decode c_M_make 2 = .ok (.getfield 58, 3) := by decide +kernel
theorem d_M_make_5 : decode c_M_make 5 = .ok (.iconst 1, 1) := by decide +kernel
theorem d_M_make_6 : decode c_M_make 6 = .ok (.iadd, 1) := by decide +kernel
theorem d_M_make_7 : decode c_M_make 7 = .ok (.putfield 58, 3) := by decide +kernel
theorem d_M_make_10 : decode c_M_make 10 = .ok (.aload_n 0, 1) := by decide +kernel
theorem d_M_make_11 : decode c_M_make 11 = .ok (.iload_n 1, 1) := by decide +kernel
theorem d_M_make_12 : decode c_M_make 12 = .ok (.aload_n 0, 1) := by decide +kernel
theorem d_M_make_13 : decode c_M_make 13 = .ok (.getfield 58, 3) := by decide +kernel
theorem d_M_make_16 : decode c_M_make 16 = .ok (.invokevirtual 46, 3) := by decide +kernel
theorem d_M_make_19 : decode c_M_make 19 = .ok (.aload_n 0, 1) := by decide +kernel
theorem d_M_make_20 : decode c_M_make 20 = .ok (.getfield 13, 3) := by decide +kernel
theorem d_M_make_23 : decode c_M_make 23 = .ok (.aload_n 0, 1) := by decide +kernel
theorem d_M_make_24 : decode c_M_make 24 = .ok (.getfield 58, 3) := by decide +kernel
theorem d_M_make_27 : decode c_M_make 27 = .ok (.iconst 1, 1) := by decide +kernel
theorem d_M_make_28 : decode c_M_make 28 = .ok (.bastore, 1) := by decide +kernel
theorem d_M_make_29 : decode c_M_make 29 = .ok (.aload_n 0, 1) := by decide +kernel
theorem d_M_make_30 : decode c_M_make 30 = .ok (.getfield 17, 3) := by decide +kernel
theorem d_M_make_33 : decode c_M_make 33 = .ok (.aload_n 0, 1) := by decide +kernel
theorem d_M_make_34 : decode c_M_make 34 = .ok (.getfield 58, 3) := by decide +kernel
theorem d_M_make_37 : decode c_M_make 37 = .ok (.iload_n 2, 1) := by decide +kernel
theorem d_M_make_38 : decode c_M_make 38 = .ok (.iastore, 1) := by decide +kernel
theorem d_M_make_39 : decode c_M_make 39 = .ok (.aload_n 0, 1) := by decide +kernel
theorem d_M_make_40 : decode c_M_make 40 = .ok (.getfield 20, 3) := by decide +kernel
theorem d_M_make_43 : decode c_M_make 43 = .ok (.aload_n 0, 1) := by decide +kernel
theorem d_M_make_44 : decode c_M_make 44 = .ok (.getfield 58, 3) := by decide +kernel
theorem d_M_make_47 : decode c_M_make 47 = .ok (.iload_n 3, 1) := by decide +kernel
theorem d_M_make_48 : decode c_M_make 48 = .ok (.iastore, 1) := by decide +kernel
theorem d_M_make_49 : decode c_M_make 49 = .ok (.iconst 0, 1) := by decide +kernel
theorem d_M_make_50 : decode c_M_make 50 = .ok (.istore 4, 2) := by decide +kernel
theorem d_M_make_52 : decode c_M_make 52 = .ok (.iload 4, 2) := by decide +kernel
theorem d_M_make_54 : decode c_M_make 54 = .ok (.bipush 16, 2) := by decide +kernel
theorem d_M_make_56 : decode c_M_make 56 = .ok (.if_icmp .ge 48, 3) := by decide +kernel
theorem d_M_make_59 : decode c_M_make 59 = .ok (.aload_n 0, 1) := by decide +kernel
theorem d_M_make_60 : decode c_M_make 60 = .ok (.getfield 7, 3) := by decide +kernel
theorem d_M_make_63 : decode c_M_make 63 = .ok (.bipush 16, 2) := by decide +kernel
theorem d_M_make_65 : decode c_M_make 65 = .ok (.aload_n 0, 1) := by decide +kernel
theorem d_M_make_66 : decode c_M_make 66 = .ok (.getfield 58, 3) := by decide +kernel
theorem d_M_make_69 : decode c_M_make 69 = .ok (.imul, 1) := by decide +kernel
theorem d_M_make_70 : decode c_M_make 70 = .ok (.iload 4, 2) := by decide +kernel
theorem d_M_make_72 : decode c_M_make 72 = .ok (.iadd, 1) := by decide +kernel
theorem d_M_make_73 : decode c_M_make 73 = .ok (.iaload, 1) := by decide +kernel
theorem d_M_make_74 : decode c_M_make 74 = .ok (.ifCond .le 24, 3) := by decide +kernel
theorem d_M_make_77 : decode c_M_make 77 = .ok (.aload_n 0, 1) := by decide +kernel
theorem d_M_make_78 : decode c_M_make 78 = .ok (.getfield 29, 3) := by decide +kernel
theorem d_M_make_81 : decode c_M_make 81 = .ok (.aload_n 0, 1) := by decide +kernel
theorem d_M_make_82 : decode c_M_make 82 = .ok (.getfield 7, 3) := by decide +kernel
theorem d_M_make_85 : decode c_M_make 85 = .ok (.bipush 16, 2) := by decide +kernel
theorem d_M_make_87 : decode c_M_make 87 = .ok (.aload_n 0, 1) := by decide +kernel
theorem d_M_make_88 : decode c_M_make 88 = .ok (.getfield 58, 3) := by decide +kernel
theorem d_M_make_91 : decode c_M_make 91 = .ok (.imul, 1) := by decide +kernel
theorem d_M_make_92 : decode c_M_make 92 = .ok (.iload 4, 2) := by decide +kernel
theorem d_M_make_94 : decode c_M_make 94 = .ok (.iadd, 1) := by decide +kernel
theorem d_M_make_95 : decode c_M_make 95 = .ok (.iaload, 1) := by decide +kernel
theorem d_M_make_96 : decode c_M_make 96 = .ok (.iconst 1, 1) := by decide +kernel
theorem d_M_make_97 : decode c_M_make 97 = .ok (.bastore, 1) := by decide +kernel
theorem d_M_make_98 : decode c_M_make 98 = .ok (.iinc 4 1, 3) := by decide +kernel
theorem d_M_make_101 : decode c_M_make 101 = .ok (.goto (-49), 3) := by decide +kernel
theorem d_M_make_104 : decode c_M_make 104 = .ok (.aload_n 0, 1) := by decide +kernel
theorem d_M_make_105 : decode c_M_make 105 = .ok (.getfield 23, 3) := by decide +kernel
theorem d_M_make_108 : decode c_M_make 108 = .ok (.aload_n 0, 1) := by decide +kernel
theorem d_M_make_109 : decode c_M_make 109 = .ok (.getfield 38, 3) := by decide +kernel
theorem d_M_make_112 : decode c_M_make 112 = .ok (.aload_n 0, 1) := by decide +kernel
theorem d_M_make_113 : decode c_M_make 113 = .ok (.getfield 58, 3) := by decide +kernel
theorem d_M_make_116 : decode c_M_make 116 = .ok (.iastore, 1) := by decide +kernel
theorem d_M_make_117 : decode c_M_make 117 = .ok (.aload_n 0, 1) := by decide +kernel
theorem d_M_make_118 : decode c_M_make 118 = .ok (.getfield 58, 3) := by decide +kernel
theorem d_M_make_121 : decode c_M_make 121 = .ok (.ireturn, 1) := by decide +kernel
theorem d_M_clashes_0 : decode c_M_clashes 0 = .ok (.iconst 0, 1) := by decide +kernel
theorem d_M_clashes_1 : decode c_M_clashes 1 = .ok (.istore_n 1, 1) := by decide +kernel
theorem d_M_clashes_2 : decode c_M_clashes 2 = .ok (.iconst 0, 1) := by decide +kernel
theorem d_M_clashes_3 : decode c_M_clashes 3 = .ok (.istore_n 2, 1) := by decide +kernel
theorem d_M_clashes_4 : decode c_M_clashes 4 = .ok (.iload_n 2, 1) := by decide +kernel
theorem d_M_clashes_5 : decode c_M_clashes 5 = .ok (.bipush 16, 2) := by decide +kernel
theorem d_M_clashes_7 : decode c_M_clashes 7 = .ok (.if_icmp .ge 21, 3) := by decide +kernel
theorem d_M_clashes_10 : decode c_M_clashes 10 = .ok (.aload_n 0, 1) := by decide +kernel
theorem d_M_clashes_11 : decode c_M_clashes 11 = .ok (.getfield 26, 3) := by decide +kernel
theorem d_M_clashes_14 : decode c_M_clashes 14 = .ok (.iload_n 2, 1) := by decide +kernel
theorem d_M_clashes_15 : decode c_M_clashes 15 = .ok (.baload, 1) := by decide +kernel
theorem d_M_clashes_16 : decode c_M_clashes 16 = .ok (.ifCond .eq 6, 3) := by decide +kernel
theorem d_M_clashes_19 : decode c_M_clashes 19 = .ok (.iinc 1 1, 3) := by decide +kernel
theorem d_M_clashes_22 : decode c_M_clashes 22 = .ok (.iinc 2 1, 3) := by decide +kernel
theorem d_M_clashes_25 : decode c_M_clashes 25 = .ok (.goto (-21), 3) := by decide +kernel
theorem d_M_clashes_28 : decode c_M_clashes 28 = .ok (.iload_n 1, 1) := by decide +kernel
theorem d_M_clashes_29 : decode c_M_clashes 29 = .ok (.ireturn, 1) := by decide +kernel
theorem d_M_commit_0 : decode c_M_commit 0 = .ok (.aload_n 0, 1) := by decide +kernel
theorem d_M_commit_1 : decode c_M_commit 1 = .ok (.invokevirtual 61, 3) := by decide +kernel
theorem d_M_commit_4 : decode c_M_commit 4 = .ok (.ifCond .le 6, 3) := by decide +kernel
theorem d_M_commit_7 : decode c_M_commit 7 = .ok (.bipush (-5), 2) := by decide +kernel
theorem d_M_commit_9 : decode c_M_commit 9 = .ok (.ireturn, 1) := by decide +kernel
theorem d_M_commit_10 : decode c_M_commit 10 = .ok (.aload_n 0, 1) := by decide +kernel
theorem d_M_commit_11 : decode c_M_commit 11 = .ok (.getfield 64, 3) := by decide +kernel
theorem d_M_commit_14 : decode c_M_commit 14 = .ok (.ifCond .ne 19, 3) := by decide +kernel
theorem d_M_commit_17 : decode c_M_commit 17 = .ok (.aload_n 0, 1) := by decide +kernel
theorem d_M_commit_18 : decode c_M_commit 18 = .ok (.bipush 32, 2) := by decide +kernel
theorem d_M_commit_20 : decode c_M_commit 20 = .ok (.aload_n 0, 1) := by decide +kernel
theorem d_M_commit_21 : decode c_M_commit 21 = .ok (.invokevirtual 54, 3) := by decide +kernel
theorem d_M_commit_24 : decode c_M_commit 24 = .ok (.invokevirtual 50, 3) := by decide +kernel
theorem d_M_commit_27 : decode c_M_commit 27 = .ok (.ifCond .eq 6, 3) := by decide +kernel
theorem d_M_commit_30 : decode c_M_commit 30 = .ok (.bipush (-3), 2) := by decide +kernel
theorem d_M_commit_32 : decode c_M_commit 32 = .ok (.ireturn, 1) := by decide +kernel
theorem d_M_commit_33 : decode c_M_commit 33 = .ok (.aload_n 0, 1) := by decide +kernel
theorem d_M_commit_34 : decode c_M_commit 34 = .ok (.getfield 58, 3) := by decide +kernel
theorem d_M_commit_37 : decode c_M_commit 37 = .ok (.bipush 30, 2) := by decide +kernel
theorem d_M_commit_39 : decode c_M_commit 39 = .ok (.if_icmp .ne 6, 3) := by decide +kernel
theorem d_M_commit_42 : decode c_M_commit 42 = .ok (.bipush (-2), 2) := by decide +kernel
theorem d_M_commit_44 : decode c_M_commit 44 = .ok (.ireturn, 1) := by decide +kernel
theorem d_M_commit_45 : decode c_M_commit 45 = .ok (.aload_n 0, 1) := by decide +kernel
theorem d_M_commit_46 : decode c_M_commit 46 = .ok (.invokevirtual 54, 3) := by decide +kernel
theorem d_M_commit_49 : decode c_M_commit 49 = .ok (.ifCond .le 10, 3) := by decide +kernel
theorem d_M_commit_52 : decode c_M_commit 52 = .ok (.aload_n 0, 1) := by decide +kernel
theorem d_M_commit_53 : decode c_M_commit 53 = .ok (.invokevirtual 54, 3) := by decide +kernel
theorem d_M_commit_56 : decode c_M_commit 56 = .ok (.goto 7, 3) := by decide +kernel
theorem d_M_commit_59 : decode c_M_commit 59 = .ok (.aload_n 0, 1) := by decide +kernel
theorem d_M_commit_60 : decode c_M_commit 60 = .ok (.getfield 64, 3) := by decide +kernel
theorem d_M_commit_63 : decode c_M_commit 63 = .ok (.istore_n 1, 1) := by decide +kernel
theorem d_M_commit_64 : decode c_M_commit 64 = .ok (.aload_n 0, 1) := by decide +kernel
theorem d_M_commit_65 : decode c_M_commit 65 = .ok (.invokevirtual 54, 3) := by decide +kernel
theorem d_M_commit_68 : decode c_M_commit 68 = .ok (.ifCond .le 10, 3) := by decide +kernel
theorem d_M_commit_71 : decode c_M_commit 71 = .ok (.aload_n 0, 1) := by decide +kernel
theorem d_M_commit_72 : decode c_M_commit 72 = .ok (.getfield 64, 3) := by decide +kernel
theorem d_M_commit_75 : decode c_M_commit 75 = .ok (.goto 4, 3) := by decide +kernel
theorem d_M_commit_78 : decode c_M_commit 78 = .ok (.iconst 0, 1) := by decide +kernel
theorem d_M_commit_79 : decode c_M_commit 79 = .ok (.istore_n 2, 1) := by decide +kernel
theorem d_M_commit_80 : decode c_M_commit 80 = .ok (.aload_n 0, 1) := by decide +kernel
theorem d_M_commit_81 : decode c_M_commit 81 = .ok (.iconst 0, 1) := by decide +kernel
theorem d_M_commit_82 : decode c_M_commit 82 = .ok (.putfield 64, 3) := by decide +kernel
theorem d_M_commit_85 : decode c_M_commit 85 = .ok (.aload_n 0, 1) := by decide +kernel
theorem d_M_commit_86 : decode c_M_commit 86 = .ok (.bipush 32, 2) := by decide +kernel
theorem d_M_commit_88 : decode c_M_commit 88 = .ok (.iload_n 1, 1) := by decide +kernel
theorem d_M_commit_89 : decode c_M_commit 89 = .ok (.iload_n 2, 1) := by decide +kernel
theorem d_M_commit_90 : decode c_M_commit 90 = .ok (.invokevirtual 67, 3) := by decide +kernel
theorem d_M_commit_93 : decode c_M_commit 93 = .ok (.ireturn, 1) := by decide +kernel
theorem d_M_branch_0 : decode c_M_branch 0 = .ok (.iload_n 1, 1) := by decide +kernel
theorem d_M_branch_1 : decode c_M_branch 1 = .ok (.iconst 0, 1) := by decide +kernel
theorem d_M_branch_2 : decode c_M_branch 2 = .ok (.iconst 5, 1) := by decide +kernel
theorem d_M_branch_3 : decode c_M_branch 3 = .ok (.invokestatic 42, 3) := by decide +kernel
theorem d_M_branch_6 : decode c_M_branch 6 = .ok (.ifCond .eq 19, 3) := by decide +kernel
theorem d_M_branch_9 : decode c_M_branch 9 = .ok (.aload_n 0, 1) := by decide +kernel
theorem d_M_branch_10 : decode c_M_branch 10 = .ok (.getfield 23, 3) := by decide +kernel
theorem d_M_branch_13 : decode c_M_branch 13 = .ok (.iload_n 1, 1) := by decide +kernel
theorem d_M_branch_14 : decode c_M_branch 14 = .ok (.iaload, 1) := by decide +kernel
theorem d_M_branch_15 : decode c_M_branch 15 = .ok (.ifCond .gt 10, 3) := by decide +kernel
theorem d_M_branch_18 : decode c_M_branch 18 = .ok (.aload_n 0, 1) := by decide +kernel
theorem d_M_branch_19 : decode c_M_branch 19 = .ok (.invokevirtual 54, 3) := by decide +kernel
theorem d_M_branch_22 : decode c_M_branch 22 = .ok (.ifCond .ne 5, 3) := by decide +kernel
theorem d_M_branch_25 : decode c_M_branch 25 = .ok (.iconst (-1), 1) := by decide +kernel
theorem d_M_branch_26 : decode c_M_branch 26 = .ok (.ireturn, 1) := by decide +kernel
theorem d_M_branch_27 : decode c_M_branch 27 = .ok (.aload_n 0, 1) := by decide +kernel
theorem d_M_branch_28 : decode c_M_branch 28 = .ok (.getfield 23, 3) := by decide +kernel
theorem d_M_branch_31 : decode c_M_branch 31 = .ok (.iload_n 1, 1) := by decide +kernel
theorem d_M_branch_32 : decode c_M_branch 32 = .ok (.aload_n 0, 1) := by decide +kernel
theorem d_M_branch_33 : decode c_M_branch 33 = .ok (.invokevirtual 54, 3) := by decide +kernel
theorem d_M_branch_36 : decode c_M_branch 36 = .ok (.iastore, 1) := by decide +kernel
theorem d_M_branch_37 : decode c_M_branch 37 = .ok (.iconst 0, 1) := by decide +kernel
theorem d_M_branch_38 : decode c_M_branch 38 = .ok (.ireturn, 1) := by decide +kernel
theorem d_M_turn_0 : decode c_M_turn 0 = .ok (.iload_n 1, 1) := by decide +kernel
theorem d_M_turn_1 : decode c_M_turn 1 = .ok (.iconst 0, 1) := by decide +kernel
theorem d_M_turn_2 : decode c_M_turn 2 = .ok (.iconst 5, 1) := by decide +kernel
theorem d_M_turn_3 : decode c_M_turn 3 = .ok (.invokestatic 42, 3) := by decide +kernel
theorem d_M_turn_6 : decode c_M_turn 6 = .ok (.ifCond .eq 19, 3) := by decide +kernel
theorem d_M_turn_9 : decode c_M_turn 9 = .ok (.aload_n 0, 1) := by decide +kernel
theorem d_M_turn_10 : decode c_M_turn 10 = .ok (.getfield 23, 3) := by decide +kernel
theorem d_M_turn_13 : decode c_M_turn 13 = .ok (.iload_n 1, 1) := by decide +kernel
theorem d_M_turn_14 : decode c_M_turn 14 = .ok (.iaload, 1) := by decide +kernel
theorem d_M_turn_15 : decode c_M_turn 15 = .ok (.ifCond .eq 10, 3) := by decide +kernel
theorem d_M_turn_18 : decode c_M_turn 18 = .ok (.aload_n 0, 1) := by decide +kernel
theorem d_M_turn_19 : decode c_M_turn 19 = .ok (.getfield 64, 3) := by decide +kernel
theorem d_M_turn_22 : decode c_M_turn 22 = .ok (.ifCond .le 5, 3) := by decide +kernel
theorem d_M_turn_25 : decode c_M_turn 25 = .ok (.iconst (-1), 1) := by decide +kernel
theorem d_M_turn_26 : decode c_M_turn 26 = .ok (.ireturn, 1) := by decide +kernel
theorem d_M_turn_27 : decode c_M_turn 27 = .ok (.aload_n 0, 1) := by decide +kernel
theorem d_M_turn_28 : decode c_M_turn 28 = .ok (.invokevirtual 71, 3) := by decide +kernel
theorem d_M_turn_31 : decode c_M_turn 31 = .ok (.ifCond .ne 6, 3) := by decide +kernel
theorem d_M_turn_34 : decode c_M_turn 34 = .ok (.bipush (-4), 2) := by decide +kernel
theorem d_M_turn_36 : decode c_M_turn 36 = .ok (.ireturn, 1) := by decide +kernel
theorem d_M_turn_37 : decode c_M_turn 37 = .ok (.aload_n 0, 1) := by decide +kernel
theorem d_M_turn_38 : decode c_M_turn 38 = .ok (.iload_n 1, 1) := by decide +kernel
theorem d_M_turn_39 : decode c_M_turn 39 = .ok (.putfield 38, 3) := by decide +kernel
theorem d_M_turn_42 : decode c_M_turn 42 = .ok (.aload_n 0, 1) := by decide +kernel
theorem d_M_turn_43 : decode c_M_turn 43 = .ok (.aload_n 0, 1) := by decide +kernel
theorem d_M_turn_44 : decode c_M_turn 44 = .ok (.invokevirtual 54, 3) := by decide +kernel
theorem d_M_turn_47 : decode c_M_turn 47 = .ok (.invokevirtual 75, 3) := by decide +kernel
theorem d_M_turn_50 : decode c_M_turn 50 = .ok (.aload_n 0, 1) := by decide +kernel
theorem d_M_turn_51 : decode c_M_turn 51 = .ok (.invokevirtual 54, 3) := by decide +kernel
theorem d_M_turn_54 : decode c_M_turn 54 = .ok (.ireturn, 1) := by decide +kernel
theorem d_M_mark_0 : decode c_M_mark 0 = .ok (.iconst 0, 1) := by decide +kernel
theorem d_M_mark_1 : decode c_M_mark 1 = .ok (.istore_n 2, 1) := by decide +kernel
theorem d_M_mark_2 : decode c_M_mark 2 = .ok (.iload_n 2, 1) := by decide +kernel
theorem d_M_mark_3 : decode c_M_mark 3 = .ok (.bipush 31, 2) := by decide +kernel
theorem d_M_mark_5 : decode c_M_mark 5 = .ok (.if_icmp .ge 29, 3) := by decide +kernel
theorem d_M_mark_8 : decode c_M_mark 8 = .ok (.aload_n 0, 1) := by decide +kernel
theorem d_M_mark_9 : decode c_M_mark 9 = .ok (.getfield 32, 3) := by decide +kernel
theorem d_M_mark_12 : decode c_M_mark 12 = .ok (.iload_n 2, 1) := by decide +kernel
theorem d_M_mark_13 : decode c_M_mark 13 = .ok (.iload_n 2, 1) := by decide +kernel
theorem d_M_mark_14 : decode c_M_mark 14 = .ok (.iload_n 1, 1) := by decide +kernel
theorem d_M_mark_15 : decode c_M_mark 15 = .ok (.if_icmp .ne 11, 3) := by decide +kernel
theorem d_M_mark_18 : decode c_M_mark 18 = .ok (.iload_n 1, 1) := by decide +kernel
theorem d_M_mark_19 : decode c_M_mark 19 = .ok (.ifCond .le 7, 3) := by decide +kernel
theorem d_M_mark_22 : decode c_M_mark 22 = .ok (.iconst 1, 1) := by decide +kernel
theorem d_M_mark_23 : decode c_M_mark 23 = .ok (.goto 4, 3) := by decide +kernel
theorem d_M_mark_26 : decode c_M_mark 26 = .ok (.iconst 0, 1) := by decide +kernel
theorem d_M_mark_27 : decode c_M_mark 27 = .ok (.bastore, 1) := by decide +kernel
theorem d_M_mark_28 : decode c_M_mark 28 = .ok (.iinc 2 1, 3) := by decide +kernel
theorem d_M_mark_31 : decode c_M_mark 31 = .ok (.goto (-29), 3) := by decide +kernel
theorem d_M_mark_34 : decode c_M_mark 34 = .ok (.bipush 30, 2) := by decide +kernel
theorem d_M_mark_36 : decode c_M_mark 36 = .ok (.istore_n 2, 1) := by decide +kernel
theorem d_M_mark_37 : decode c_M_mark 37 = .ok (.iload_n 2, 1) := by decide +kernel
theorem d_M_mark_38 : decode c_M_mark 38 = .ok (.ifCond .le 45, 3) := by decide +kernel
theorem d_M_mark_41 : decode c_M_mark 41 = .ok (.aload_n 0, 1) := by decide +kernel
theorem d_M_mark_42 : decode c_M_mark 42 = .ok (.getfield 32, 3) := by decide +kernel
theorem d_M_mark_45 : decode c_M_mark 45 = .ok (.iload_n 2, 1) := by decide +kernel
theorem d_M_mark_46 : decode c_M_mark 46 = .ok (.baload, 1) := by decide +kernel
theorem d_M_mark_47 : decode c_M_mark 47 = .ok (.ifCond .ne 6, 3) := by decide +kernel
theorem d_M_mark_50 : decode c_M_mark 50 = .ok (.goto 27, 3) := by decide +kernel
theorem d_M_mark_53 : decode c_M_mark 53 = .ok (.aload_n 0, 1) := by decide +kernel
theorem d_M_mark_54 : decode c_M_mark 54 = .ok (.getfield 32, 3) := by decide +kernel
theorem d_M_mark_57 : decode c_M_mark 57 = .ok (.aload_n 0, 1) := by decide +kernel
theorem d_M_mark_58 : decode c_M_mark 58 = .ok (.getfield 17, 3) := by decide +kernel
theorem d_M_mark_61 : decode c_M_mark 61 = .ok (.iload_n 2, 1) := by decide +kernel
theorem d_M_mark_62 : decode c_M_mark 62 = .ok (.iaload, 1) := by decide +kernel
theorem d_M_mark_63 : decode c_M_mark 63 = .ok (.iconst 1, 1) := by decide +kernel
theorem d_M_mark_64 : decode c_M_mark 64 = .ok (.bastore, 1) := by decide +kernel
theorem d_M_mark_65 : decode c_M_mark 65 = .ok (.aload_n 0, 1) := by decide +kernel
theorem d_M_mark_66 : decode c_M_mark 66 = .ok (.getfield 32, 3) := by decide +kernel
theorem d_M_mark_69 : decode c_M_mark 69 = .ok (.aload_n 0, 1) := by decide +kernel
theorem d_M_mark_70 : decode c_M_mark 70 = .ok (.getfield 20, 3) := by decide +kernel
theorem d_M_mark_73 : decode c_M_mark 73 = .ok (.iload_n 2, 1) := by decide +kernel
theorem d_M_mark_74 : decode c_M_mark 74 = .ok (.iaload, 1) := by decide +kernel
theorem d_M_mark_75 : decode c_M_mark 75 = .ok (.iconst 1, 1) := by decide +kernel
theorem d_M_mark_76 : decode c_M_mark 76 = .ok (.bastore, 1) := by decide +kernel
theorem d_M_mark_77 : decode c_M_mark 77 = .ok (.iinc 2 (-1), 3) := by decide +kernel
theorem d_M_mark_80 : decode c_M_mark 80 = .ok (.goto (-43), 3) := by decide +kernel
theorem d_M_mark_83 : decode c_M_mark 83 = .ok (.aload_n 0, 1) := by decide +kernel
theorem d_M_mark_84 : decode c_M_mark 84 = .ok (.getfield 32, 3) := by decide +kernel
theorem d_M_mark_87 : decode c_M_mark 87 = .ok (.iconst 0, 1) := by decide +kernel
theorem d_M_mark_88 : decode c_M_mark 88 = .ok (.iconst 0, 1) := by decide +kernel
theorem d_M_mark_89 : decode c_M_mark 89 = .ok (.bastore, 1) := by decide +kernel
theorem d_M_mark_90 : decode c_M_mark 90 = .ok (.return_, 1) := by decide +kernel
theorem d_M_shared_0 : decode c_M_shared 0 = .ok (.aload_n 0, 1) := by decide +kernel
theorem d_M_shared_1 : decode c_M_shared 1 = .ok (.iload_n 1, 1) := by decide +kernel
theorem d_M_shared_2 : decode c_M_shared 2 = .ok (.invokevirtual 79, 3) := by decide +kernel
theorem d_M_shared_5 : decode c_M_shared 5 = .ok (.iconst 0, 1) := by decide +kernel
theorem d_M_shared_6 : decode c_M_shared 6 = .ok (.istore_n 3, 1) := by decide +kernel
theorem d_M_shared_7 : decode c_M_shared 7 = .ok (.iload_n 3, 1) := by decide +kernel
theorem d_M_shared_8 : decode c_M_shared 8 = .ok (.bipush 31, 2) := by decide +kernel
theorem d_M_shared_10 : decode c_M_shared 10 = .ok (.if_icmp .ge 21, 3) := by decide +kernel
theorem d_M_shared_13 : decode c_M_shared 13 = .ok (.aload_n 0, 1) := by decide +kernel
theorem d_M_shared_14 : decode c_M_shared 14 = .ok (.getfield 35, 3) := by decide +kernel
theorem d_M_shared_17 : decode c_M_shared 17 = .ok (.iload_n 3, 1) := by decide +kernel
theorem d_M_shared_18 : decode c_M_shared 18 = .ok (.aload_n 0, 1) := by decide +kernel
theorem d_M_shared_19 : decode c_M_shared 19 = .ok (.getfield 32, 3) := by decide +kernel
theorem d_M_shared_22 : decode c_M_shared 22 = .ok (.iload_n 3, 1) := by decide +kernel
theorem d_M_shared_23 : decode c_M_shared 23 = .ok (.baload, 1) := by decide +kernel
theorem d_M_shared_24 : decode c_M_shared 24 = .ok (.bastore, 1) := by decide +kernel
theorem d_M_shared_25 : decode c_M_shared 25 = .ok (.iinc 3 1, 3) := by decide +kernel
theorem d_M_shared_28 : decode c_M_shared 28 = .ok (.goto (-21), 3) := by decide +kernel
theorem d_M_shared_31 : decode c_M_shared 31 = .ok (.aload_n 0, 1) := by decide +kernel
theorem d_M_shared_32 : decode c_M_shared 32 = .ok (.iload_n 2, 1) := by decide +kernel
theorem d_M_shared_33 : decode c_M_shared 33 = .ok (.invokevirtual 79, 3) := by decide +kernel
theorem d_M_shared_36 : decode c_M_shared 36 = .ok (.iconst 0, 1) := by decide +kernel
theorem d_M_shared_37 : decode c_M_shared 37 = .ok (.istore_n 3, 1) := by decide +kernel
theorem d_M_shared_38 : decode c_M_shared 38 = .ok (.iconst 1, 1) := by decide +kernel
theorem d_M_shared_39 : decode c_M_shared 39 = .ok (.istore 4, 2) := by decide +kernel
theorem d_M_shared_41 : decode c_M_shared 41 = .ok (.iload 4, 2) := by decide +kernel
theorem d_M_shared_43 : decode c_M_shared 43 = .ok (.bipush 31, 2) := by decide +kernel
theorem d_M_shared_45 : decode c_M_shared 45 = .ok (.if_icmp .ge 32, 3) := by decide +kernel
theorem d_M_shared_48 : decode c_M_shared 48 = .ok (.aload_n 0, 1) := by decide +kernel
theorem d_M_shared_49 : decode c_M_shared 49 = .ok (.getfield 32, 3) := by decide +kernel
theorem d_M_shared_52 : decode c_M_shared 52 = .ok (.iload 4, 2) := by decide +kernel
theorem d_M_shared_54 : decode c_M_shared 54 = .ok (.baload, 1) := by decide +kernel
theorem d_M_shared_55 : decode c_M_shared 55 = .ok (.ifCond .eq 16, 3) := by decide +kernel
theorem d_M_shared_58 : decode c_M_shared 58 = .ok (.aload_n 0, 1) := by decide +kernel
theorem d_M_shared_59 : decode c_M_shared 59 = .ok (.getfield 35, 3) := by decide +kernel
theorem d_M_shared_62 : decode c_M_shared 62 = .ok (.iload 4, 2) := by decide +kernel
theorem d_M_shared_64 : decode c_M_shared 64 = .ok (.baload, 1) := by decide +kernel
theorem d_M_shared_65 : decode c_M_shared 65 = .ok (.ifCond .eq 6, 3) := by decide +kernel
theorem d_M_shared_68 : decode c_M_shared 68 = .ok (.iload 4, 2) := by decide +kernel
theorem d_M_shared_70 : decode c_M_shared 70 = .ok (.istore_n 3, 1) := by decide +kernel
theorem d_M_shared_71 : decode c_M_shared 71 = .ok (.iinc 4 1, 3) := by decide +kernel
theorem d_M_shared_74 : decode c_M_shared 74 = .ok (.goto (-33), 3) := by decide +kernel
theorem d_M_shared_77 : decode c_M_shared 77 = .ok (.iload_n 3, 1) := by decide +kernel
theorem d_M_shared_78 : decode c_M_shared 78 = .ok (.ireturn, 1) := by decide +kernel
theorem d_M_mix_0 : decode c_M_mix 0 = .ok (.iconst 0, 1) := by decide +kernel
theorem d_M_mix_1 : decode c_M_mix 1 = .ok (.istore 5, 2) := by decide +kernel
theorem d_M_mix_3 : decode c_M_mix 3 = .ok (.iconst 0, 1) := by decide +kernel
theorem d_M_mix_4 : decode c_M_mix 4 = .ok (.istore 6, 2) := by decide +kernel
theorem d_M_mix_6 : decode c_M_mix 6 = .ok (.iload 6, 2) := by decide +kernel
theorem d_M_mix_8 : decode c_M_mix 8 = .ok (.bipush 16, 2) := by decide +kernel
theorem d_M_mix_10 : decode c_M_mix 10 = .ok (.if_icmp .ge 126, 3) := by decide +kernel
theorem d_M_mix_13 : decode c_M_mix 13 = .ok (.aload_n 0, 1) := by decide +kernel
theorem d_M_mix_14 : decode c_M_mix 14 = .ok (.getfield 7, 3) := by decide +kernel
theorem d_M_mix_17 : decode c_M_mix 17 = .ok (.bipush 16, 2) := by decide +kernel
theorem d_M_mix_19 : decode c_M_mix 19 = .ok (.iload_n 1, 1) := by decide +kernel
theorem d_M_mix_20 : decode c_M_mix 20 = .ok (.imul, 1) := by decide +kernel
theorem d_M_mix_21 : decode c_M_mix 21 = .ok (.iload 6, 2) := by decide +kernel
theorem d_M_mix_23 : decode c_M_mix 23 = .ok (.iadd, 1) := by decide +kernel
theorem d_M_mix_24 : decode c_M_mix 24 = .ok (.iaload, 1) := by decide +kernel
theorem d_M_mix_25 : decode c_M_mix 25 = .ok (.istore 7, 2) := by decide +kernel
theorem d_M_mix_27 : decode c_M_mix 27 = .ok (.aload_n 0, 1) := by decide +kernel
theorem d_M_mix_28 : decode c_M_mix 28 = .ok (.getfield 7, 3) := by decide +kernel
theorem d_M_mix_31 : decode c_M_mix 31 = .ok (.bipush 16, 2) := by decide +kernel
theorem d_M_mix_33 : decode c_M_mix 33 = .ok (.iload_n 2, 1) := by decide +kernel
theorem d_M_mix_34 : decode c_M_mix 34 = .ok (.imul, 1) := by decide +kernel
theorem d_M_mix_35 : decode c_M_mix 35 = .ok (.iload 6, 2) := by decide +kernel
theorem d_M_mix_37 : decode c_M_mix 37 = .ok (.iadd, 1) := by decide +kernel
theorem d_M_mix_38 : decode c_M_mix 38 = .ok (.iaload, 1) := by decide +kernel
theorem d_M_mix_39 : decode c_M_mix 39 = .ok (.istore 8, 2) := by decide +kernel
theorem d_M_mix_41 : decode c_M_mix 41 = .ok (.aload_n 0, 1) := by decide +kernel
theorem d_M_mix_42 : decode c_M_mix 42 = .ok (.getfield 7, 3) := by decide +kernel
theorem d_M_mix_45 : decode c_M_mix 45 = .ok (.bipush 16, 2) := by decide +kernel
theorem d_M_mix_47 : decode c_M_mix 47 = .ok (.iload_n 3, 1) := by decide +kernel
theorem d_M_mix_48 : decode c_M_mix 48 = .ok (.imul, 1) := by decide +kernel
theorem d_M_mix_49 : decode c_M_mix 49 = .ok (.iload 6, 2) := by decide +kernel
theorem d_M_mix_51 : decode c_M_mix 51 = .ok (.iadd, 1) := by decide +kernel
theorem d_M_mix_52 : decode c_M_mix 52 = .ok (.iaload, 1) := by decide +kernel
theorem d_M_mix_53 : decode c_M_mix 53 = .ok (.istore 9, 2) := by decide +kernel
theorem d_M_mix_55 : decode c_M_mix 55 = .ok (.iload 7, 2) := by decide +kernel
theorem d_M_mix_57 : decode c_M_mix 57 = .ok (.iload 8, 2) := by decide +kernel
theorem d_M_mix_59 : decode c_M_mix 59 = .ok (.if_icmp .eq 21, 3) := by decide +kernel
theorem d_M_mix_62 : decode c_M_mix 62 = .ok (.iload 7, 2) := by decide +kernel
theorem d_M_mix_64 : decode c_M_mix 64 = .ok (.iload 9, 2) := by decide +kernel
theorem d_M_mix_66 : decode c_M_mix 66 = .ok (.if_icmp .eq 14, 3) := by decide +kernel
theorem d_M_mix_69 : decode c_M_mix 69 = .ok (.iload 8, 2) := by decide +kernel
theorem d_M_mix_71 : decode c_M_mix 71 = .ok (.iload 9, 2) := by decide +kernel
theorem d_M_mix_73 : decode c_M_mix 73 = .ok (.if_icmp .eq 7, 3) := by decide +kernel
theorem d_M_mix_76 : decode c_M_mix 76 = .ok (.iconst 1, 1) := by decide +kernel
theorem d_M_mix_77 : decode c_M_mix 77 = .ok (.goto 4, 3) := by decide +kernel
theorem d_M_mix_80 : decode c_M_mix 80 = .ok (.iconst 0, 1) := by decide +kernel
theorem d_M_mix_81 : decode c_M_mix 81 = .ok (.istore 10, 2) := by decide +kernel
theorem d_M_mix_83 : decode c_M_mix 83 = .ok (.aload_n 0, 1) := by decide +kernel
theorem d_M_mix_84 : decode c_M_mix 84 = .ok (.getfield 7, 3) := by decide +kernel
theorem d_M_mix_87 : decode c_M_mix 87 = .ok (.sipush 528, 3) := by decide +kernel
theorem d_M_mix_90 : decode c_M_mix 90 = .ok (.iload 6, 2) := by decide +kernel
theorem d_M_mix_92 : decode c_M_mix 92 = .ok (.iadd, 1) := by decide +kernel
theorem d_M_mix_93 : decode c_M_mix 93 = .ok (.iload 7, 2) := by decide +kernel
theorem d_M_mix_95 : decode c_M_mix 95 = .ok (.iload 9, 2) := by decide +kernel
theorem d_M_mix_97 : decode c_M_mix 97 = .ok (.if_icmp .ne 8, 3) := by decide +kernel
theorem d_M_mix_100 : decode c_M_mix 100 = .ok (.iload 8, 2) := by decide +kernel
theorem d_M_mix_102 : decode c_M_mix 102 = .ok (.goto 5, 3) := by decide +kernel
theorem d_M_mix_105 : decode c_M_mix 105 = .ok (.iload 7, 2) := by decide +kernel
theorem d_M_mix_107 : decode c_M_mix 107 = .ok (.iastore, 1) := by decide +kernel
theorem d_M_mix_108 : decode c_M_mix 108 = .ok (.iload 4, 2) := by decide +kernel
theorem d_M_mix_110 : decode c_M_mix 110 = .ok (.ifCond .eq 12, 3) := by decide +kernel
theorem d_M_mix_113 : decode c_M_mix 113 = .ok (.aload_n 0, 1) := by decide +kernel
theorem d_M_mix_114 : decode c_M_mix 114 = .ok (.getfield 26, 3) := by decide +kernel
theorem d_M_mix_117 : decode c_M_mix 117 = .ok (.iload 6, 2) := by decide +kernel
theorem d_M_mix_119 : decode c_M_mix 119 = .ok (.iload 10, 2) := by decide +kernel
theorem d_M_mix_121 : decode c_M_mix 121 = .ok (.bastore, 1) := by decide +kernel
theorem d_M_mix_122 : decode c_M_mix 122 = .ok (.iload 10, 2) := by decide +kernel
theorem d_M_mix_124 : decode c_M_mix 124 = .ok (.ifCond .eq 6, 3) := by decide +kernel
theorem d_M_mix_127 : decode c_M_mix 127 = .ok (.iinc 5 1, 3) := by decide +kernel
theorem d_M_mix_130 : decode c_M_mix 130 = .ok (.iinc 6 1, 3) := by decide +kernel
theorem d_M_mix_133 : decode c_M_mix 133 = .ok (.goto (-127), 3) := by decide +kernel
theorem d_M_mix_136 : decode c_M_mix 136 = .ok (.iload 5, 2) := by decide +kernel
theorem d_M_mix_138 : decode c_M_mix 138 = .ok (.ireturn, 1) := by decide +kernel
theorem d_M_merge_0 : decode c_M_merge 0 = .ok (.iload_n 1, 1) := by decide +kernel
theorem d_M_merge_1 : decode c_M_merge 1 = .ok (.iconst 0, 1) := by decide +kernel
theorem d_M_merge_2 : decode c_M_merge 2 = .ok (.iconst 5, 1) := by decide +kernel
theorem d_M_merge_3 : decode c_M_merge 3 = .ok (.invokestatic 42, 3) := by decide +kernel
theorem d_M_merge_6 : decode c_M_merge 6 = .ok (.ifCond .eq 26, 3) := by decide +kernel
theorem d_M_merge_9 : decode c_M_merge 9 = .ok (.aload_n 0, 1) := by decide +kernel
theorem d_M_merge_10 : decode c_M_merge 10 = .ok (.getfield 23, 3) := by decide +kernel
theorem d_M_merge_13 : decode c_M_merge 13 = .ok (.iload_n 1, 1) := by decide +kernel
theorem d_M_merge_14 : decode c_M_merge 14 = .ok (.iaload, 1) := by decide +kernel
theorem d_M_merge_15 : decode c_M_merge 15 = .ok (.ifCond .eq 17, 3) := by decide +kernel
theorem d_M_merge_18 : decode c_M_merge 18 = .ok (.aload_n 0, 1) := by decide +kernel
theorem d_M_merge_19 : decode c_M_merge 19 = .ok (.invokevirtual 54, 3) := by decide +kernel
theorem d_M_merge_22 : decode c_M_merge 22 = .ok (.ifCond .eq 10, 3) := by decide +kernel
theorem d_M_merge_25 : decode c_M_merge 25 = .ok (.aload_n 0, 1) := by decide +kernel
theorem d_M_merge_26 : decode c_M_merge 26 = .ok (.getfield 64, 3) := by decide +kernel
theorem d_M_merge_29 : decode c_M_merge 29 = .ok (.ifCond .le 5, 3) := by decide +kernel
theorem d_M_merge_32 : decode c_M_merge 32 = .ok (.iconst (-1), 1) := by decide +kernel
theorem d_M_merge_33 : decode c_M_merge 33 = .ok (.ireturn, 1) := by decide +kernel
theorem d_M_merge_34 : decode c_M_merge 34 = .ok (.aload_n 0, 1) := by decide +kernel
theorem d_M_merge_35 : decode c_M_merge 35 = .ok (.invokevirtual 71, 3) := by decide +kernel
theorem d_M_merge_38 : decode c_M_merge 38 = .ok (.ifCond .ne 6, 3) := by decide +kernel
theorem d_M_merge_41 : decode c_M_merge 41 = .ok (.bipush (-4), 2) := by decide +kernel
theorem d_M_merge_43 : decode c_M_merge 43 = .ok (.ireturn, 1) := by decide +kernel
theorem d_M_merge_44 : decode c_M_merge 44 = .ok (.aload_n 0, 1) := by decide +kernel
theorem d_M_merge_45 : decode c_M_merge 45 = .ok (.getfield 23, 3) := by decide +kernel
theorem d_M_merge_48 : decode c_M_merge 48 = .ok (.iload_n 1, 1) := by decide +kernel
theorem d_M_merge_49 : decode c_M_merge 49 = .ok (.iaload, 1) := by decide +kernel
theorem d_M_merge_50 : decode c_M_merge 50 = .ok (.istore_n 2, 1) := by decide +kernel
theorem d_M_merge_51 : decode c_M_merge 51 = .ok (.aload_n 0, 1) := by decide +kernel
theorem d_M_merge_52 : decode c_M_merge 52 = .ok (.aload_n 0, 1) := by decide +kernel
theorem d_M_merge_53 : decode c_M_merge 53 = .ok (.invokevirtual 54, 3) := by decide +kernel
theorem d_M_merge_56 : decode c_M_merge 56 = .ok (.iload_n 2, 1) := by decide +kernel
theorem d_M_merge_57 : decode c_M_merge 57 = .ok (.invokevirtual 82, 3) := by decide +kernel
theorem d_M_merge_60 : decode c_M_merge 60 = .ok (.istore_n 3, 1) := by decide +kernel
theorem d_M_merge_61 : decode c_M_merge 61 = .ok (.iload_n 3, 1) := by decide +kernel
theorem d_M_merge_62 : decode c_M_merge 62 = .ok (.iload_n 2, 1) := by decide +kernel
theorem d_M_merge_63 : decode c_M_merge 63 = .ok (.if_icmp .ne 5, 3) := by decide +kernel
theorem d_M_merge_66 : decode c_M_merge 66 = .ok (.iconst 0, 1) := by decide +kernel
theorem d_M_merge_67 : decode c_M_merge 67 = .ok (.ireturn, 1) := by decide +kernel
theorem d_M_merge_68 : decode c_M_merge 68 = .ok (.iload_n 3, 1) := by decide +kernel
theorem d_M_merge_69 : decode c_M_merge 69 = .ok (.aload_n 0, 1) := by decide +kernel
theorem d_M_merge_70 : decode c_M_merge 70 = .ok (.invokevirtual 54, 3) := by decide +kernel
theorem d_M_merge_73 : decode c_M_merge 73 = .ok (.if_icmp .ne 20, 3) := by decide +kernel
theorem d_M_merge_76 : decode c_M_merge 76 = .ok (.aload_n 0, 1) := by decide +kernel
theorem d_M_merge_77 : decode c_M_merge 77 = .ok (.getfield 23, 3) := by decide +kernel
theorem d_M_merge_80 : decode c_M_merge 80 = .ok (.aload_n 0, 1) := by decide +kernel
theorem d_M_merge_81 : decode c_M_merge 81 = .ok (.getfield 38, 3) := by decide +kernel
theorem d_M_merge_84 : decode c_M_merge 84 = .ok (.iload_n 2, 1) := by decide +kernel
theorem d_M_merge_85 : decode c_M_merge 85 = .ok (.iastore, 1) := by decide +kernel
theorem d_M_merge_86 : decode c_M_merge 86 = .ok (.aload_n 0, 1) := by decide +kernel
theorem d_M_merge_87 : decode c_M_merge 87 = .ok (.iload_n 2, 1) := by decide +kernel
theorem d_M_merge_88 : decode c_M_merge 88 = .ok (.invokevirtual 75, 3) := by decide +kernel
theorem d_M_merge_91 : decode c_M_merge 91 = .ok (.iload_n 2, 1) := by decide +kernel
theorem d_M_merge_92 : decode c_M_merge 92 = .ok (.ireturn, 1) := by decide +kernel
theorem d_M_merge_93 : decode c_M_merge 93 = .ok (.aload_n 0, 1) := by decide +kernel
theorem d_M_merge_94 : decode c_M_merge 94 = .ok (.aload_n 0, 1) := by decide +kernel
theorem d_M_merge_95 : decode c_M_merge 95 = .ok (.invokevirtual 54, 3) := by decide +kernel
theorem d_M_merge_98 : decode c_M_merge 98 = .ok (.iload_n 2, 1) := by decide +kernel
theorem d_M_merge_99 : decode c_M_merge 99 = .ok (.iload_n 3, 1) := by decide +kernel
theorem d_M_merge_100 : decode c_M_merge 100 = .ok (.iconst 0, 1) := by decide +kernel
theorem d_M_merge_101 : decode c_M_merge 101 = .ok (.invokevirtual 86, 3) := by decide +kernel
theorem d_M_merge_104 : decode c_M_merge 104 = .ok (.istore 4, 2) := by decide +kernel
theorem d_M_merge_106 : decode c_M_merge 106 = .ok (.iload 4, 2) := by decide +kernel
theorem d_M_merge_108 : decode c_M_merge 108 = .ok (.ifCond .ne 40, 3) := by decide +kernel
theorem d_M_merge_111 : decode c_M_merge 111 = .ok (.aload_n 0, 1) := by decide +kernel
theorem d_M_merge_112 : decode c_M_merge 112 = .ok (.getfield 58, 3) := by decide +kernel
theorem d_M_merge_115 : decode c_M_merge 115 = .ok (.bipush 30, 2) := by decide +kernel
theorem d_M_merge_117 : decode c_M_merge 117 = .ok (.if_icmp .ne 6, 3) := by decide +kernel
theorem d_M_merge_120 : decode c_M_merge 120 = .ok (.bipush (-2), 2) := by decide +kernel
theorem d_M_merge_122 : decode c_M_merge 122 = .ok (.ireturn, 1) := by decide +kernel
theorem d_M_merge_123 : decode c_M_merge 123 = .ok (.aload_n 0, 1) := by decide +kernel
theorem d_M_merge_124 : decode c_M_merge 124 = .ok (.bipush 33, 2) := by decide +kernel
theorem d_M_merge_126 : decode c_M_merge 126 = .ok (.aload_n 0, 1) := by decide +kernel
theorem d_M_merge_127 : decode c_M_merge 127 = .ok (.invokevirtual 54, 3) := by decide +kernel
theorem d_M_merge_130 : decode c_M_merge 130 = .ok (.iload_n 2, 1) := by decide +kernel
theorem d_M_merge_131 : decode c_M_merge 131 = .ok (.invokevirtual 67, 3) := by decide +kernel
theorem d_M_merge_134 : decode c_M_merge 134 = .ok (.pop, 1) := by decide +kernel
theorem d_M_merge_135 : decode c_M_merge 135 = .ok (.aload_n 0, 1) := by decide +kernel
theorem d_M_merge_136 : decode c_M_merge 136 = .ok (.aload_n 0, 1) := by decide +kernel
theorem d_M_merge_137 : decode c_M_merge 137 = .ok (.invokevirtual 54, 3) := by decide +kernel
theorem d_M_merge_140 : decode c_M_merge 140 = .ok (.invokevirtual 75, 3) := by decide +kernel
theorem d_M_merge_143 : decode c_M_merge 143 = .ok (.aload_n 0, 1) := by decide +kernel
theorem d_M_merge_144 : decode c_M_merge 144 = .ok (.invokevirtual 54, 3) := by decide +kernel
theorem d_M_merge_147 : decode c_M_merge 147 = .ok (.ireturn, 1) := by decide +kernel
theorem d_M_merge_148 : decode c_M_merge 148 = .ok (.aload_n 0, 1) := by decide +kernel
theorem d_M_merge_149 : decode c_M_merge 149 = .ok (.aload_n 0, 1) := by decide +kernel
theorem d_M_merge_150 : decode c_M_merge 150 = .ok (.invokevirtual 54, 3) := by decide +kernel
theorem d_M_merge_153 : decode c_M_merge 153 = .ok (.iload_n 2, 1) := by decide +kernel
theorem d_M_merge_154 : decode c_M_merge 154 = .ok (.iload_n 3, 1) := by decide +kernel
theorem d_M_merge_155 : decode c_M_merge 155 = .ok (.iconst 1, 1) := by decide +kernel
theorem d_M_merge_156 : decode c_M_merge 156 = .ok (.invokevirtual 86, 3) := by decide +kernel
theorem d_M_merge_159 : decode c_M_merge 159 = .ok (.pop, 1) := by decide +kernel
theorem d_M_merge_160 : decode c_M_merge 160 = .ok (.aload_n 0, 1) := by decide +kernel
theorem d_M_merge_161 : decode c_M_merge 161 = .ok (.bipush 33, 2) := by decide +kernel
theorem d_M_merge_163 : decode c_M_merge 163 = .ok (.invokevirtual 75, 3) := by decide +kernel
theorem d_M_merge_166 : decode c_M_merge 166 = .ok (.aload_n 0, 1) := by decide +kernel
theorem d_M_merge_167 : decode c_M_merge 167 = .ok (.iload_n 2, 1) := by decide +kernel
theorem d_M_merge_168 : decode c_M_merge 168 = .ok (.putfield 64, 3) := by decide +kernel
theorem d_M_merge_171 : decode c_M_merge 171 = .ok (.bipush (-5), 2) := by decide +kernel
theorem d_M_merge_173 : decode c_M_merge 173 = .ok (.ireturn, 1) := by decide +kernel
theorem d_M_abort_0 : decode c_M_abort 0 = .ok (.aload_n 0, 1) := by decide +kernel
theorem d_M_abort_1 : decode c_M_abort 1 = .ok (.getfield 64, 3) := by decide +kernel
theorem d_M_abort_4 : decode c_M_abort 4 = .ok (.ifCond .ne 5, 3) := by decide +kernel
theorem d_M_abort_7 : decode c_M_abort 7 = .ok (.iconst (-1), 1) := by decide +kernel
theorem d_M_abort_8 : decode c_M_abort 8 = .ok (.ireturn, 1) := by decide +kernel
theorem d_M_abort_9 : decode c_M_abort 9 = .ok (.aload_n 0, 1) := by decide +kernel
theorem d_M_abort_10 : decode c_M_abort 10 = .ok (.iconst 0, 1) := by decide +kernel
theorem d_M_abort_11 : decode c_M_abort 11 = .ok (.putfield 64, 3) := by decide +kernel
theorem d_M_abort_14 : decode c_M_abort 14 = .ok (.iconst 0, 1) := by decide +kernel
theorem d_M_abort_15 : decode c_M_abort 15 = .ok (.istore_n 1, 1) := by decide +kernel
theorem d_M_abort_16 : decode c_M_abort 16 = .ok (.iload_n 1, 1) := by decide +kernel
theorem d_M_abort_17 : decode c_M_abort 17 = .ok (.bipush 16, 2) := by decide +kernel
theorem d_M_abort_19 : decode c_M_abort 19 = .ok (.if_icmp .ge 16, 3) := by decide +kernel
theorem d_M_abort_22 : decode c_M_abort 22 = .ok (.aload_n 0, 1) := by decide +kernel
theorem d_M_abort_23 : decode c_M_abort 23 = .ok (.getfield 26, 3) := by decide +kernel
theorem d_M_abort_26 : decode c_M_abort 26 = .ok (.iload_n 1, 1) := by decide +kernel
theorem d_M_abort_27 : decode c_M_abort 27 = .ok (.iconst 0, 1) := by decide +kernel
theorem d_M_abort_28 : decode c_M_abort 28 = .ok (.bastore, 1) := by decide +kernel
theorem d_M_abort_29 : decode c_M_abort 29 = .ok (.iinc 1 1, 3) := by decide +kernel
theorem d_M_abort_32 : decode c_M_abort 32 = .ok (.goto (-16), 3) := by decide +kernel
theorem d_M_abort_35 : decode c_M_abort 35 = .ok (.aload_n 0, 1) := by decide +kernel
theorem d_M_abort_36 : decode c_M_abort 36 = .ok (.aload_n 0, 1) := by decide +kernel
theorem d_M_abort_37 : decode c_M_abort 37 = .ok (.invokevirtual 54, 3) := by decide +kernel
theorem d_M_abort_40 : decode c_M_abort 40 = .ok (.invokevirtual 75, 3) := by decide +kernel
theorem d_M_abort_43 : decode c_M_abort 43 = .ok (.iconst 0, 1) := by decide +kernel
theorem d_M_abort_44 : decode c_M_abort 44 = .ok (.ireturn, 1) := by decide +kernel
theorem d_M_pick_0 : decode c_M_pick 0 = .ok (.aload_n 0, 1) := by decide +kernel
theorem d_M_pick_1 : decode c_M_pick 1 = .ok (.iload_n 1, 1) := by decide +kernel
theorem d_M_pick_2 : decode c_M_pick 2 = .ok (.invokevirtual 90, 3) := by decide +kernel
theorem d_M_pick_5 : decode c_M_pick 5 = .ok (.ifCond .eq 17, 3) := by decide +kernel
theorem d_M_pick_8 : decode c_M_pick 8 = .ok (.aload_n 0, 1) := by decide +kernel
theorem d_M_pick_9 : decode c_M_pick 9 = .ok (.invokevirtual 54, 3) := by decide +kernel
theorem d_M_pick_12 : decode c_M_pick 12 = .ok (.ifCond .eq 10, 3) := by decide +kernel
theorem d_M_pick_15 : decode c_M_pick 15 = .ok (.aload_n 0, 1) := by decide +kernel
theorem d_M_pick_16 : decode c_M_pick 16 = .ok (.getfield 64, 3) := by decide +kernel
theorem d_M_pick_19 : decode c_M_pick 19 = .ok (.ifCond .le 5, 3) := by decide +kernel
theorem d_M_pick_22 : decode c_M_pick 22 = .ok (.iconst (-1), 1) := by decide +kernel
theorem d_M_pick_23 : decode c_M_pick 23 = .ok (.ireturn, 1) := by decide +kernel
theorem d_M_pick_24 : decode c_M_pick 24 = .ok (.aload_n 0, 1) := by decide +kernel
theorem d_M_pick_25 : decode c_M_pick 25 = .ok (.invokevirtual 71, 3) := by decide +kernel
theorem d_M_pick_28 : decode c_M_pick 28 = .ok (.ifCond .ne 6, 3) := by decide +kernel
theorem d_M_pick_31 : decode c_M_pick 31 = .ok (.bipush (-4), 2) := by decide +kernel
theorem d_M_pick_33 : decode c_M_pick 33 = .ok (.ireturn, 1) := by decide +kernel
theorem d_M_pick_34 : decode c_M_pick 34 = .ok (.aload_n 0, 1) := by decide +kernel
theorem d_M_pick_35 : decode c_M_pick 35 = .ok (.aload_n 0, 1) := by decide +kernel
theorem d_M_pick_36 : decode c_M_pick 36 = .ok (.invokevirtual 54, 3) := by decide +kernel
theorem d_M_pick_39 : decode c_M_pick 39 = .ok (.iload_n 1, 1) := by decide +kernel
theorem d_M_pick_40 : decode c_M_pick 40 = .ok (.aload_n 0, 1) := by decide +kernel
theorem d_M_pick_41 : decode c_M_pick 41 = .ok (.getfield 17, 3) := by decide +kernel
theorem d_M_pick_44 : decode c_M_pick 44 = .ok (.iload_n 1, 1) := by decide +kernel
theorem d_M_pick_45 : decode c_M_pick 45 = .ok (.iaload, 1) := by decide +kernel
theorem d_M_pick_46 : decode c_M_pick 46 = .ok (.iconst 0, 1) := by decide +kernel
theorem d_M_pick_47 : decode c_M_pick 47 = .ok (.invokevirtual 86, 3) := by decide +kernel
theorem d_M_pick_50 : decode c_M_pick 50 = .ok (.ifCond .le 6, 3) := by decide +kernel
theorem d_M_pick_53 : decode c_M_pick 53 = .ok (.bipush (-5), 2) := by decide +kernel
theorem d_M_pick_55 : decode c_M_pick 55 = .ok (.ireturn, 1) := by decide +kernel
theorem d_M_pick_56 : decode c_M_pick 56 = .ok (.aload_n 0, 1) := by decide +kernel
theorem d_M_pick_57 : decode c_M_pick 57 = .ok (.bipush 33, 2) := by decide +kernel
theorem d_M_pick_59 : decode c_M_pick 59 = .ok (.aload_n 0, 1) := by decide +kernel
theorem d_M_pick_60 : decode c_M_pick 60 = .ok (.invokevirtual 54, 3) := by decide +kernel
theorem d_M_pick_63 : decode c_M_pick 63 = .ok (.invokevirtual 50, 3) := by decide +kernel
theorem d_M_pick_66 : decode c_M_pick 66 = .ok (.ifCond .eq 6, 3) := by decide +kernel
theorem d_M_pick_69 : decode c_M_pick 69 = .ok (.bipush (-3), 2) := by decide +kernel
theorem d_M_pick_71 : decode c_M_pick 71 = .ok (.ireturn, 1) := by decide +kernel
theorem d_M_pick_72 : decode c_M_pick 72 = .ok (.aload_n 0, 1) := by decide +kernel
theorem d_M_pick_73 : decode c_M_pick 73 = .ok (.getfield 58, 3) := by decide +kernel
theorem d_M_pick_76 : decode c_M_pick 76 = .ok (.bipush 30, 2) := by decide +kernel
theorem d_M_pick_78 : decode c_M_pick 78 = .ok (.if_icmp .ne 6, 3) := by decide +kernel
theorem d_M_pick_81 : decode c_M_pick 81 = .ok (.bipush (-2), 2) := by decide +kernel
theorem d_M_pick_83 : decode c_M_pick 83 = .ok (.ireturn, 1) := by decide +kernel
theorem d_M_pick_84 : decode c_M_pick 84 = .ok (.aload_n 0, 1) := by decide +kernel
theorem d_M_pick_85 : decode c_M_pick 85 = .ok (.bipush 33, 2) := by decide +kernel
theorem d_M_pick_87 : decode c_M_pick 87 = .ok (.aload_n 0, 1) := by decide +kernel
theorem d_M_pick_88 : decode c_M_pick 88 = .ok (.invokevirtual 54, 3) := by decide +kernel
theorem d_M_pick_91 : decode c_M_pick 91 = .ok (.iconst 0, 1) := by decide +kernel
theorem d_M_pick_92 : decode c_M_pick 92 = .ok (.invokevirtual 67, 3) := by decide +kernel
theorem d_M_pick_95 : decode c_M_pick 95 = .ok (.pop, 1) := by decide +kernel
theorem d_M_pick_96 : decode c_M_pick 96 = .ok (.aload_n 0, 1) := by decide +kernel
theorem d_M_pick_97 : decode c_M_pick 97 = .ok (.aload_n 0, 1) := by decide +kernel
theorem d_M_pick_98 : decode c_M_pick 98 = .ok (.invokevirtual 54, 3) := by decide +kernel
theorem d_M_pick_101 : decode c_M_pick 101 = .ok (.invokevirtual 75, 3) := by decide +kernel
theorem d_M_pick_104 : decode c_M_pick 104 = .ok (.aload_n 0, 1) := by decide +kernel
theorem d_M_pick_105 : decode c_M_pick 105 = .ok (.invokevirtual 54, 3) := by decide +kernel
theorem d_M_pick_108 : decode c_M_pick 108 = .ok (.ireturn, 1) := by decide +kernel
theorem d_M_reset_0 : decode c_M_reset 0 = .ok (.aload_n 0, 1) := by decide +kernel
theorem d_M_reset_1 : decode c_M_reset 1 = .ok (.iload_n 1, 1) := by decide +kernel
theorem d_M_reset_2 : decode c_M_reset 2 = .ok (.invokevirtual 90, 3) := by decide +kernel
theorem d_M_reset_5 : decode c_M_reset 5 = .ok (.ifCond .eq 10, 3) := by decide +kernel
theorem d_M_reset_8 : decode c_M_reset 8 = .ok (.aload_n 0, 1) := by decide +kernel
theorem d_M_reset_9 : decode c_M_reset 9 = .ok (.getfield 64, 3) := by decide +kernel
theorem d_M_reset_12 : decode c_M_reset 12 = .ok (.ifCond .le 5, 3) := by decide +kernel
theorem d_M_reset_15 : decode c_M_reset 15 = .ok (.iconst (-1), 1) := by decide +kernel
theorem d_M_reset_16 : decode c_M_reset 16 = .ok (.ireturn, 1) := by decide +kernel
theorem d_M_reset_17 : decode c_M_reset 17 = .ok (.aload_n 0, 1) := by decide +kernel
theorem d_M_reset_18 : decode c_M_reset 18 = .ok (.getfield 23, 3) := by decide +kernel
theorem d_M_reset_21 : decode c_M_reset 21 = .ok (.aload_n 0, 1) := by decide +kernel
theorem d_M_reset_22 : decode c_M_reset 22 = .ok (.getfield 38, 3) := by decide +kernel
theorem d_M_reset_25 : decode c_M_reset 25 = .ok (.iload_n 1, 1) := by decide +kernel
theorem d_M_reset_26 : decode c_M_reset 26 = .ok (.iastore, 1) := by decide +kernel
theorem d_M_reset_27 : decode c_M_reset 27 = .ok (.aload_n 0, 1) := by decide +kernel
theorem d_M_reset_28 : decode c_M_reset 28 = .ok (.iload_n 1, 1) := by decide +kernel
theorem d_M_reset_29 : decode c_M_reset 29 = .ok (.invokevirtual 75, 3) := by decide +kernel
theorem d_M_reset_32 : decode c_M_reset 32 = .ok (.iconst 0, 1) := by decide +kernel
theorem d_M_reset_33 : decode c_M_reset 33 = .ok (.ireturn, 1) := by decide +kernel
theorem d_M_remove_0 : decode c_M_remove 0 = .ok (.iload_n 1, 1) := by decide +kernel
theorem d_M_remove_1 : decode c_M_remove 1 = .ok (.iconst 0, 1) := by decide +kernel
theorem d_M_remove_2 : decode c_M_remove 2 = .ok (.iconst 5, 1) := by decide +kernel
theorem d_M_remove_3 : decode c_M_remove 3 = .ok (.invokestatic 42, 3) := by decide +kernel
theorem d_M_remove_6 : decode c_M_remove 6 = .ok (.ifCond .eq 20, 3) := by decide +kernel
theorem d_M_remove_9 : decode c_M_remove 9 = .ok (.aload_n 0, 1) := by decide +kernel
theorem d_M_remove_10 : decode c_M_remove 10 = .ok (.getfield 23, 3) := by decide +kernel
theorem d_M_remove_13 : decode c_M_remove 13 = .ok (.iload_n 1, 1) := by decide +kernel
theorem d_M_remove_14 : decode c_M_remove 14 = .ok (.iaload, 1) := by decide +kernel
theorem d_M_remove_15 : decode c_M_remove 15 = .ok (.ifCond .eq 11, 3) := by decide +kernel
theorem d_M_remove_18 : decode c_M_remove 18 = .ok (.iload_n 1, 1) := by decide +kernel
theorem d_M_remove_19 : decode c_M_remove 19 = .ok (.aload_n 0, 1) := by decide +kernel
theorem d_M_remove_20 : decode c_M_remove 20 = .ok (.getfield 38, 3) := by decide +kernel
theorem d_M_remove_23 : decode c_M_remove 23 = .ok (.if_icmp .ne 5, 3) := by decide +kernel
theorem d_M_remove_26 : decode c_M_remove 26 = .ok (.iconst (-1), 1) := by decide +kernel
theorem d_M_remove_27 : decode c_M_remove 27 = .ok (.ireturn, 1) := by decide +kernel
theorem d_M_remove_28 : decode c_M_remove 28 = .ok (.aload_n 0, 1) := by decide +kernel
theorem d_M_remove_29 : decode c_M_remove 29 = .ok (.getfield 23, 3) := by decide +kernel
theorem d_M_remove_32 : decode c_M_remove 32 = .ok (.iload_n 1, 1) := by decide +kernel
theorem d_M_remove_33 : decode c_M_remove 33 = .ok (.iconst 0, 1) := by decide +kernel
theorem d_M_remove_34 : decode c_M_remove 34 = .ok (.iastore, 1) := by decide +kernel
theorem d_M_remove_35 : decode c_M_remove 35 = .ok (.iconst 0, 1) := by decide +kernel
theorem d_M_remove_36 : decode c_M_remove 36 = .ok (.ireturn, 1) := by decide +kernel
theorem d_M_objects_0 : decode c_M_objects 0 = .ok (.aload_n 0, 1) := by decide +kernel
theorem d_M_objects_1 : decode c_M_objects 1 = .ok (.iconst 0, 1) := by decide +kernel
theorem d_M_objects_2 : decode c_M_objects 2 = .ok (.invokevirtual 94, 3) := by decide +kernel
theorem d_M_objects_5 : decode c_M_objects 5 = .ok (.aload_n 0, 1) := by decide +kernel
theorem d_M_objects_6 : decode c_M_objects 6 = .ok (.iconst 1, 1) := by decide +kernel
theorem d_M_objects_7 : decode c_M_objects 7 = .ok (.invokevirtual 94, 3) := by decide +kernel
theorem d_M_objects_10 : decode c_M_objects 10 = .ok (.iadd, 1) := by decide +kernel
theorem d_M_objects_11 : decode c_M_objects 11 = .ok (.aload_n 0, 1) := by decide +kernel
theorem d_M_objects_12 : decode c_M_objects 12 = .ok (.iconst 2, 1) := by decide +kernel
theorem d_M_objects_13 : decode c_M_objects 13 = .ok (.invokevirtual 94, 3) := by decide +kernel
theorem d_M_objects_16 : decode c_M_objects 16 = .ok (.iadd, 1) := by decide +kernel
theorem d_M_objects_17 : decode c_M_objects 17 = .ok (.aload_n 0, 1) := by decide +kernel
theorem d_M_objects_18 : decode c_M_objects 18 = .ok (.iconst 3, 1) := by decide +kernel
theorem d_M_objects_19 : decode c_M_objects 19 = .ok (.invokevirtual 94, 3) := by decide +kernel
theorem d_M_objects_22 : decode c_M_objects 22 = .ok (.iadd, 1) := by decide +kernel
theorem d_M_objects_23 : decode c_M_objects 23 = .ok (.ireturn, 1) := by decide +kernel
theorem d_M_sweep_0 : decode c_M_sweep 0 = .ok (.aload_n 0, 1) := by decide +kernel
theorem d_M_sweep_1 : decode c_M_sweep 1 = .ok (.invokevirtual 98, 3) := by decide +kernel
theorem d_M_sweep_4 : decode c_M_sweep 4 = .ok (.istore_n 1, 1) := by decide +kernel
theorem d_M_sweep_5 : decode c_M_sweep 5 = .ok (.iconst 0, 1) := by decide +kernel
theorem d_M_sweep_6 : decode c_M_sweep 6 = .ok (.istore_n 2, 1) := by decide +kernel
theorem d_M_sweep_7 : decode c_M_sweep 7 = .ok (.iload_n 2, 1) := by decide +kernel
theorem d_M_sweep_8 : decode c_M_sweep 8 = .ok (.bipush 31, 2) := by decide +kernel
theorem d_M_sweep_10 : decode c_M_sweep 10 = .ok (.if_icmp .ge 16, 3) := by decide +kernel
theorem d_M_sweep_13 : decode c_M_sweep 13 = .ok (.aload_n 0, 1) := by decide +kernel
theorem d_M_sweep_14 : decode c_M_sweep 14 = .ok (.getfield 35, 3) := by decide +kernel
end
section
theorem d_M_sweep_17 : decode c_M_sweep 17 = .ok (.iload_n 2, 1) := by decide +kernel
theorem d_M_sweep_18 : decode c_M_sweep 18 = .ok (.iconst 0, 1) := by decide +kernel
theorem d_M_sweep_19 : decode c_M_sweep 19 = .ok (.bastore, 1) := by decide +kernel
theorem d_M_sweep_20 : decode c_M_sweep 20 = .ok (.iinc 2 1, 3) := by decide +kernel
theorem d_M_sweep_23 : decode c_M_sweep 23 = .ok (.goto (-16), 3) := by decide +kernel
theorem d_M_sweep_26 : decode c_M_sweep 26 = .ok (.iconst 0, 1) := by decide +kernel
theorem d_M_sweep_27 : decode c_M_sweep 27 = .ok (.istore_n 2, 1) := by decide +kernel
theorem d_M_sweep_28 : decode c_M_sweep 28 = .ok (.iload_n 2, 1) := by decide +kernel
theorem d_M_sweep_29 : decode c_M_sweep 29 = .ok (.bipush 7, 2) := by decide +kernel
theorem d_M_sweep_31 : decode c_M_sweep 31 = .ok (.if_icmp .ge 62, 3) := by decide +kernel
theorem d_M_sweep_34 : decode c_M_sweep 34 = .ok (.aload_n 0, 1) := by decide +kernel
theorem d_M_sweep_35 : decode c_M_sweep 35 = .ok (.iload_n 2, 1) := by decide +kernel
theorem d_M_sweep_36 : decode c_M_sweep 36 = .ok (.bipush 6, 2) := by decide +kernel
theorem d_M_sweep_38 : decode c_M_sweep 38 = .ok (.if_icmp .ge 12, 3) := by decide +kernel
theorem d_M_sweep_41 : decode c_M_sweep 41 = .ok (.aload_n 0, 1) := by decide +kernel
theorem d_M_sweep_42 : decode c_M_sweep 42 = .ok (.getfield 23, 3) := by decide +kernel
theorem d_M_sweep_45 : decode c_M_sweep 45 = .ok (.iload_n 2, 1) := by decide +kernel
theorem d_M_sweep_46 : decode c_M_sweep 46 = .ok (.iaload, 1) := by decide +kernel
theorem d_M_sweep_47 : decode c_M_sweep 47 = .ok (.goto 7, 3) := by decide +kernel
theorem d_M_sweep_50 : decode c_M_sweep 50 = .ok (.aload_n 0, 1) := by decide +kernel
theorem d_M_sweep_51 : decode c_M_sweep 51 = .ok (.getfield 64, 3) := by decide +kernel
theorem d_M_sweep_54 : decode c_M_sweep 54 = .ok (.invokevirtual 79, 3) := by decide +kernel
theorem d_M_sweep_57 : decode c_M_sweep 57 = .ok (.iconst 1, 1) := by decide +kernel
theorem d_M_sweep_58 : decode c_M_sweep 58 = .ok (.istore_n 3, 1) := by decide +kernel
theorem d_M_sweep_59 : decode c_M_sweep 59 = .ok (.iload_n 3, 1) := by decide +kernel
theorem d_M_sweep_60 : decode c_M_sweep 60 = .ok (.bipush 31, 2) := by decide +kernel
theorem d_M_sweep_62 : decode c_M_sweep 62 = .ok (.if_icmp .ge 25, 3) := by decide +kernel
theorem d_M_sweep_65 : decode c_M_sweep 65 = .ok (.aload_n 0, 1) := by decide +kernel
theorem d_M_sweep_66 : decode c_M_sweep 66 = .ok (.getfield 32, 3) := by decide +kernel
theorem d_M_sweep_69 : decode c_M_sweep 69 = .ok (.iload_n 3, 1) := by decide +kernel
theorem d_M_sweep_70 : decode c_M_sweep 70 = .ok (.baload, 1) := by decide +kernel
theorem d_M_sweep_71 : decode c_M_sweep 71 = .ok (.ifCond .eq 10, 3) := by decide +kernel
theorem d_M_sweep_74 : decode c_M_sweep 74 = .ok (.aload_n 0, 1) := by decide +kernel
theorem d_M_sweep_75 : decode c_M_sweep 75 = .ok (.getfield 35, 3) := by decide +kernel
theorem d_M_sweep_78 : decode c_M_sweep 78 = .ok (.iload_n 3, 1) := by decide +kernel
theorem d_M_sweep_79 : decode c_M_sweep 79 = .ok (.iconst 1, 1) := by decide +kernel
theorem d_M_sweep_80 : decode c_M_sweep 80 = .ok (.bastore, 1) := by decide +kernel
theorem d_M_sweep_81 : decode c_M_sweep 81 = .ok (.iinc 3 1, 3) := by decide +kernel
theorem d_M_sweep_84 : decode c_M_sweep 84 = .ok (.goto (-25), 3) := by decide +kernel
theorem d_M_sweep_87 : decode c_M_sweep 87 = .ok (.iinc 2 1, 3) := by decide +kernel
theorem d_M_sweep_90 : decode c_M_sweep 90 = .ok (.goto (-62), 3) := by decide +kernel
theorem d_M_sweep_93 : decode c_M_sweep 93 = .ok (.iconst 0, 1) := by decide +kernel
theorem d_M_sweep_94 : decode c_M_sweep 94 = .ok (.istore_n 2, 1) := by decide +kernel
theorem d_M_sweep_95 : decode c_M_sweep 95 = .ok (.iload_n 2, 1) := by decide +kernel
theorem d_M_sweep_96 : decode c_M_sweep 96 = .ok (.sipush 10000, 3) := by decide +kernel
theorem d_M_sweep_99 : decode c_M_sweep 99 = .ok (.if_icmp .ge 16, 3) := by decide +kernel
theorem d_M_sweep_102 : decode c_M_sweep 102 = .ok (.aload_n 0, 1) := by decide +kernel
theorem d_M_sweep_103 : decode c_M_sweep 103 = .ok (.getfield 29, 3) := by decide +kernel
theorem d_M_sweep_106 : decode c_M_sweep 106 = .ok (.iload_n 2, 1) := by decide +kernel
theorem d_M_sweep_107 : decode c_M_sweep 107 = .ok (.iconst 0, 1) := by decide +kernel
theorem d_M_sweep_108 : decode c_M_sweep 108 = .ok (.bastore, 1) := by decide +kernel
theorem d_M_sweep_109 : decode c_M_sweep 109 = .ok (.iinc 2 1, 3) := by decide +kernel
theorem d_M_sweep_112 : decode c_M_sweep 112 = .ok (.goto (-17), 3) := by decide +kernel
theorem d_M_sweep_115 : decode c_M_sweep 115 = .ok (.iconst 1, 1) := by decide +kernel
theorem d_M_sweep_116 : decode c_M_sweep 116 = .ok (.istore_n 2, 1) := by decide +kernel
theorem d_M_sweep_117 : decode c_M_sweep 117 = .ok (.iload_n 2, 1) := by decide +kernel
theorem d_M_sweep_118 : decode c_M_sweep 118 = .ok (.bipush 31, 2) := by decide +kernel
theorem d_M_sweep_120 : decode c_M_sweep 120 = .ok (.if_icmp .ge 61, 3) := by decide +kernel
theorem d_M_sweep_123 : decode c_M_sweep 123 = .ok (.aload_n 0, 1) := by decide +kernel
theorem d_M_sweep_124 : decode c_M_sweep 124 = .ok (.getfield 13, 3) := by decide +kernel
theorem d_M_sweep_127 : decode c_M_sweep 127 = .ok (.iload_n 2, 1) := by decide +kernel
theorem d_M_sweep_128 : decode c_M_sweep 128 = .ok (.aload_n 0, 1) := by decide +kernel
theorem d_M_sweep_129 : decode c_M_sweep 129 = .ok (.getfield 35, 3) := by decide +kernel
theorem d_M_sweep_132 : decode c_M_sweep 132 = .ok (.iload_n 2, 1) := by decide +kernel
theorem d_M_sweep_133 : decode c_M_sweep 133 = .ok (.baload, 1) := by decide +kernel
theorem d_M_sweep_134 : decode c_M_sweep 134 = .ok (.bastore, 1) := by decide +kernel
theorem d_M_sweep_135 : decode c_M_sweep 135 = .ok (.iconst 0, 1) := by decide +kernel
theorem d_M_sweep_136 : decode c_M_sweep 136 = .ok (.istore_n 3, 1) := by decide +kernel
theorem d_M_sweep_137 : decode c_M_sweep 137 = .ok (.iload_n 3, 1) := by decide +kernel
theorem d_M_sweep_138 : decode c_M_sweep 138 = .ok (.bipush 16, 2) := by decide +kernel
theorem d_M_sweep_140 : decode c_M_sweep 140 = .ok (.if_icmp .ge 35, 3) := by decide +kernel
theorem d_M_sweep_143 : decode c_M_sweep 143 = .ok (.aload_n 0, 1) := by decide +kernel
theorem d_M_sweep_144 : decode c_M_sweep 144 = .ok (.getfield 13, 3) := by decide +kernel
theorem d_M_sweep_147 : decode c_M_sweep 147 = .ok (.iload_n 2, 1) := by decide +kernel
theorem d_M_sweep_148 : decode c_M_sweep 148 = .ok (.baload, 1) := by decide +kernel
theorem d_M_sweep_149 : decode c_M_sweep 149 = .ok (.ifCond .eq 20, 3) := by decide +kernel
theorem d_M_sweep_152 : decode c_M_sweep 152 = .ok (.aload_n 0, 1) := by decide +kernel
theorem d_M_sweep_153 : decode c_M_sweep 153 = .ok (.getfield 29, 3) := by decide +kernel
theorem d_M_sweep_156 : decode c_M_sweep 156 = .ok (.aload_n 0, 1) := by decide +kernel
theorem d_M_sweep_157 : decode c_M_sweep 157 = .ok (.getfield 7, 3) := by decide +kernel
theorem d_M_sweep_160 : decode c_M_sweep 160 = .ok (.bipush 16, 2) := by decide +kernel
theorem d_M_sweep_162 : decode c_M_sweep 162 = .ok (.iload_n 2, 1) := by decide +kernel
theorem d_M_sweep_163 : decode c_M_sweep 163 = .ok (.imul, 1) := by decide +kernel
theorem d_M_sweep_164 : decode c_M_sweep 164 = .ok (.iload_n 3, 1) := by decide +kernel
theorem d_M_sweep_165 : decode c_M_sweep 165 = .ok (.iadd, 1) := by decide +kernel
theorem d_M_sweep_166 : decode c_M_sweep 166 = .ok (.iaload, 1) := by decide +kernel
theorem d_M_sweep_167 : decode c_M_sweep 167 = .ok (.iconst 1, 1) := by decide +kernel
theorem d_M_sweep_168 : decode c_M_sweep 168 = .ok (.bastore, 1) := by decide +kernel
theorem d_M_sweep_169 : decode c_M_sweep 169 = .ok (.iinc 3 1, 3) := by decide +kernel
theorem d_M_sweep_172 : decode c_M_sweep 172 = .ok (.goto (-35), 3) := by decide +kernel
theorem d_M_sweep_175 : decode c_M_sweep 175 = .ok (.iinc 2 1, 3) := by decide +kernel
theorem d_M_sweep_178 : decode c_M_sweep 178 = .ok (.goto (-61), 3) := by decide +kernel
theorem d_M_sweep_181 : decode c_M_sweep 181 = .ok (.iconst 0, 1) := by decide +kernel
theorem d_M_sweep_182 : decode c_M_sweep 182 = .ok (.istore_n 2, 1) := by decide +kernel
theorem d_M_sweep_183 : decode c_M_sweep 183 = .ok (.iload_n 2, 1) := by decide +kernel
theorem d_M_sweep_184 : decode c_M_sweep 184 = .ok (.bipush 16, 2) := by decide +kernel
theorem d_M_sweep_186 : decode c_M_sweep 186 = .ok (.if_icmp .ge 25, 3) := by decide +kernel
theorem d_M_sweep_189 : decode c_M_sweep 189 = .ok (.aload_n 0, 1) := by decide +kernel
theorem d_M_sweep_190 : decode c_M_sweep 190 = .ok (.getfield 29, 3) := by decide +kernel
theorem d_M_sweep_193 : decode c_M_sweep 193 = .ok (.aload_n 0, 1) := by decide +kernel
theorem d_M_sweep_194 : decode c_M_sweep 194 = .ok (.getfield 7, 3) := by decide +kernel
theorem d_M_sweep_197 : decode c_M_sweep 197 = .ok (.sipush 512, 3) := by decide +kernel
theorem d_M_sweep_200 : decode c_M_sweep 200 = .ok (.iload_n 2, 1) := by decide +kernel
theorem d_M_sweep_201 : decode c_M_sweep 201 = .ok (.iadd, 1) := by decide +kernel
theorem d_M_sweep_202 : decode c_M_sweep 202 = .ok (.iaload, 1) := by decide +kernel
theorem d_M_sweep_203 : decode c_M_sweep 203 = .ok (.iconst 1, 1) := by decide +kernel
theorem d_M_sweep_204 : decode c_M_sweep 204 = .ok (.bastore, 1) := by decide +kernel
theorem d_M_sweep_205 : decode c_M_sweep 205 = .ok (.iinc 2 1, 3) := by decide +kernel
theorem d_M_sweep_208 : decode c_M_sweep 208 = .ok (.goto (-25), 3) := by decide +kernel
theorem d_M_sweep_211 : decode c_M_sweep 211 = .ok (.aload_n 0, 1) := by decide +kernel
theorem d_M_sweep_212 : decode c_M_sweep 212 = .ok (.getfield 29, 3) := by decide +kernel
theorem d_M_sweep_215 : decode c_M_sweep 215 = .ok (.iconst 0, 1) := by decide +kernel
theorem d_M_sweep_216 : decode c_M_sweep 216 = .ok (.iconst 0, 1) := by decide +kernel
theorem d_M_sweep_217 : decode c_M_sweep 217 = .ok (.bastore, 1) := by decide +kernel
theorem d_M_sweep_218 : decode c_M_sweep 218 = .ok (.iload_n 1, 1) := by decide +kernel
theorem d_M_sweep_219 : decode c_M_sweep 219 = .ok (.aload_n 0, 1) := by decide +kernel
theorem d_M_sweep_220 : decode c_M_sweep 220 = .ok (.invokevirtual 98, 3) := by decide +kernel
theorem d_M_sweep_223 : decode c_M_sweep 223 = .ok (.isub, 1) := by decide +kernel
theorem d_M_sweep_224 : decode c_M_sweep 224 = .ok (.ireturn, 1) := by decide +kernel
theorem d_M_content_0 : decode c_M_content 0 = .ok (.iload_n 1, 1) := by decide +kernel
theorem d_M_content_1 : decode c_M_content 1 = .ok (.iconst 0, 1) := by decide +kernel
theorem d_M_content_2 : decode c_M_content 2 = .ok (.iconst 1, 1) := by decide +kernel
theorem d_M_content_3 : decode c_M_content 3 = .ok (.invokestatic 42, 3) := by decide +kernel
theorem d_M_content_6 : decode c_M_content 6 = .ok (.ifCond .eq 30, 3) := by decide +kernel
theorem d_M_content_9 : decode c_M_content 9 = .ok (.iload_n 2, 1) := by decide +kernel
theorem d_M_content_10 : decode c_M_content 10 = .ok (.iconst 0, 1) := by decide +kernel
theorem d_M_content_11 : decode c_M_content 11 = .ok (.bipush 15, 2) := by decide +kernel
theorem d_M_content_13 : decode c_M_content 13 = .ok (.invokestatic 42, 3) := by decide +kernel
theorem d_M_content_16 : decode c_M_content 16 = .ok (.ifCond .eq 20, 3) := by decide +kernel
theorem d_M_content_19 : decode c_M_content 19 = .ok (.aload_n 0, 1) := by decide +kernel
theorem d_M_content_20 : decode c_M_content 20 = .ok (.getfield 7, 3) := by decide +kernel
theorem d_M_content_23 : decode c_M_content 23 = .ok (.bipush 16, 2) := by decide +kernel
theorem d_M_content_25 : decode c_M_content 25 = .ok (.bipush 31, 2) := by decide +kernel
theorem d_M_content_27 : decode c_M_content 27 = .ok (.iload_n 1, 1) := by decide +kernel
theorem d_M_content_28 : decode c_M_content 28 = .ok (.iadd, 1) := by decide +kernel
theorem d_M_content_29 : decode c_M_content 29 = .ok (.imul, 1) := by decide +kernel
theorem d_M_content_30 : decode c_M_content 30 = .ok (.iload_n 2, 1) := by decide +kernel
theorem d_M_content_31 : decode c_M_content 31 = .ok (.iadd, 1) := by decide +kernel
theorem d_M_content_32 : decode c_M_content 32 = .ok (.iaload, 1) := by decide +kernel
theorem d_M_content_33 : decode c_M_content 33 = .ok (.goto 4, 3) := by decide +kernel
theorem d_M_content_36 : decode c_M_content 36 = .ok (.iconst (-1), 1) := by decide +kernel
theorem d_M_content_37 : decode c_M_content 37 = .ok (.ireturn, 1) := by decide +kernel
theorem d_M_at_0 : decode c_M_at 0 = .ok (.aload_n 0, 1) := by decide +kernel
theorem d_M_at_1 : decode c_M_at 1 = .ok (.iload_n 1, 1) := by decide +kernel
theorem d_M_at_2 : decode c_M_at 2 = .ok (.invokevirtual 90, 3) := by decide +kernel
theorem d_M_at_5 : decode c_M_at 5 = .ok (.ifCond .eq 27, 3) := by decide +kernel
theorem d_M_at_8 : decode c_M_at 8 = .ok (.iload_n 2, 1) := by decide +kernel
theorem d_M_at_9 : decode c_M_at 9 = .ok (.iconst 0, 1) := by decide +kernel
theorem d_M_at_10 : decode c_M_at 10 = .ok (.bipush 15, 2) := by decide +kernel
theorem d_M_at_12 : decode c_M_at 12 = .ok (.invokestatic 42, 3) := by decide +kernel
theorem d_M_at_15 : decode c_M_at 15 = .ok (.ifCond .eq 17, 3) := by decide +kernel
theorem d_M_at_18 : decode c_M_at 18 = .ok (.aload_n 0, 1) := by decide +kernel
theorem d_M_at_19 : decode c_M_at 19 = .ok (.getfield 7, 3) := by decide +kernel
theorem d_M_at_22 : decode c_M_at 22 = .ok (.bipush 16, 2) := by decide +kernel
theorem d_M_at_24 : decode c_M_at 24 = .ok (.iload_n 1, 1) := by decide +kernel
theorem d_M_at_25 : decode c_M_at 25 = .ok (.imul, 1) := by decide +kernel
theorem d_M_at_26 : decode c_M_at 26 = .ok (.iload_n 2, 1) := by decide +kernel
theorem d_M_at_27 : decode c_M_at 27 = .ok (.iadd, 1) := by decide +kernel
theorem d_M_at_28 : decode c_M_at 28 = .ok (.iaload, 1) := by decide +kernel
theorem d_M_at_29 : decode c_M_at 29 = .ok (.goto 4, 3) := by decide +kernel
theorem d_M_at_32 : decode c_M_at 32 = .ok (.iconst (-1), 1) := by decide +kernel
theorem d_M_at_33 : decode c_M_at 33 = .ok (.ireturn, 1) := by decide +kernel
theorem d_M_parent_0 : decode c_M_parent 0 = .ok (.aload_n 0, 1) := by decide +kernel
theorem d_M_parent_1 : decode c_M_parent 1 = .ok (.iload_n 1, 1) := by decide +kernel
theorem d_M_parent_2 : decode c_M_parent 2 = .ok (.invokevirtual 90, 3) := by decide +kernel
theorem d_M_parent_5 : decode c_M_parent 5 = .ok (.ifCond .eq 12, 3) := by decide +kernel
theorem d_M_parent_8 : decode c_M_parent 8 = .ok (.iload_n 2, 1) := by decide +kernel
theorem d_M_parent_9 : decode c_M_parent 9 = .ok (.iconst 0, 1) := by decide +kernel
theorem d_M_parent_10 : decode c_M_parent 10 = .ok (.iconst 1, 1) := by decide +kernel
theorem d_M_parent_11 : decode c_M_parent 11 = .ok (.invokestatic 42, 3) := by decide +kernel
theorem d_M_parent_14 : decode c_M_parent 14 = .ok (.ifCond .ne 7, 3) := by decide +kernel
theorem d_M_parent_17 : decode c_M_parent 17 = .ok (.iconst (-1), 1) := by decide +kernel
theorem d_M_parent_18 : decode c_M_parent 18 = .ok (.goto 22, 3) := by decide +kernel
theorem d_M_parent_21 : decode c_M_parent 21 = .ok (.iload_n 2, 1) := by decide +kernel
theorem d_M_parent_22 : decode c_M_parent 22 = .ok (.ifCond .ne 12, 3) := by decide +kernel
theorem d_M_parent_25 : decode c_M_parent 25 = .ok (.aload_n 0, 1) := by decide +kernel
theorem d_M_parent_26 : decode c_M_parent 26 = .ok (.getfield 17, 3) := by decide +kernel
theorem d_M_parent_29 : decode c_M_parent 29 = .ok (.iload_n 1, 1) := by decide +kernel
theorem d_M_parent_30 : decode c_M_parent 30 = .ok (.iaload, 1) := by decide +kernel
theorem d_M_parent_31 : decode c_M_parent 31 = .ok (.goto 9, 3) := by decide +kernel
theorem d_M_parent_34 : decode c_M_parent 34 = .ok (.aload_n 0, 1) := by decide +kernel
theorem d_M_parent_35 : decode c_M_parent 35 = .ok (.getfield 20, 3) := by decide +kernel
theorem d_M_parent_38 : decode c_M_parent 38 = .ok (.iload_n 1, 1) := by decide +kernel
theorem d_M_parent_39 : decode c_M_parent 39 = .ok (.iaload, 1) := by decide +kernel
theorem d_M_parent_40 : decode c_M_parent 40 = .ok (.ireturn, 1) := by decide +kernel
theorem d_M_branchAt_0 : decode c_M_branchAt 0 = .ok (.iload_n 1, 1) := by decide +kernel
theorem d_M_branchAt_1 : decode c_M_branchAt 1 = .ok (.iconst 0, 1) := by decide +kernel
theorem d_M_branchAt_2 : decode c_M_branchAt 2 = .ok (.iconst 5, 1) := by decide +kernel
theorem d_M_branchAt_3 : decode c_M_branchAt 3 = .ok (.invokestatic 42, 3) := by decide +kernel
theorem d_M_branchAt_6 : decode c_M_branchAt 6 = .ok (.ifCond .eq 12, 3) := by decide +kernel
theorem d_M_branchAt_9 : decode c_M_branchAt 9 = .ok (.aload_n 0, 1) := by decide +kernel
theorem d_M_branchAt_10 : decode c_M_branchAt 10 = .ok (.getfield 23, 3) := by decide +kernel
theorem d_M_branchAt_13 : decode c_M_branchAt 13 = .ok (.iload_n 1, 1) := by decide +kernel
theorem d_M_branchAt_14 : decode c_M_branchAt 14 = .ok (.iaload, 1) := by decide +kernel
theorem d_M_branchAt_15 : decode c_M_branchAt 15 = .ok (.goto 4, 3) := by decide +kernel
theorem d_M_branchAt_18 : decode c_M_branchAt 18 = .ok (.iconst (-1), 1) := by decide +kernel
theorem d_M_branchAt_19 : decode c_M_branchAt 19 = .ok (.ireturn, 1) := by decide +kernel
theorem d_M_common_0 : decode c_M_common 0 = .ok (.aload_n 0, 1) := by decide +kernel
theorem d_M_common_1 : decode c_M_common 1 = .ok (.iload_n 1, 1) := by decide +kernel
theorem d_M_common_2 : decode c_M_common 2 = .ok (.invokevirtual 90, 3) := by decide +kernel
theorem d_M_common_5 : decode c_M_common 5 = .ok (.ifCond .eq 20, 3) := by decide +kernel
theorem d_M_common_8 : decode c_M_common 8 = .ok (.aload_n 0, 1) := by decide +kernel
theorem d_M_common_9 : decode c_M_common 9 = .ok (.iload_n 2, 1) := by decide +kernel
theorem d_M_common_10 : decode c_M_common 10 = .ok (.invokevirtual 90, 3) := by decide +kernel
theorem d_M_common_13 : decode c_M_common 13 = .ok (.ifCond .eq 12, 3) := by decide +kernel
theorem d_M_common_16 : decode c_M_common 16 = .ok (.aload_n 0, 1) := by decide +kernel
theorem d_M_common_17 : decode c_M_common 17 = .ok (.iload_n 1, 1) := by decide +kernel
theorem d_M_common_18 : decode c_M_common 18 = .ok (.iload_n 2, 1) := by decide +kernel
theorem d_M_common_19 : decode c_M_common 19 = .ok (.invokevirtual 82, 3) := by decide +kernel
theorem d_M_common_22 : decode c_M_common 22 = .ok (.goto 4, 3) := by decide +kernel
theorem d_M_common_25 : decode c_M_common 25 = .ok (.iconst (-1), 1) := by decide +kernel
theorem d_M_common_26 : decode c_M_common 26 = .ok (.ireturn, 1) := by decide +kernel
theorem d_M_differ_0 : decode c_M_differ 0 = .ok (.aload_n 0, 1) := by decide +kernel
theorem d_M_differ_1 : decode c_M_differ 1 = .ok (.iload_n 1, 1) := by decide +kernel
theorem d_M_differ_2 : decode c_M_differ 2 = .ok (.invokevirtual 90, 3) := by decide +kernel
theorem d_M_differ_5 : decode c_M_differ 5 = .ok (.ifCond .eq 11, 3) := by decide +kernel
theorem d_M_differ_8 : decode c_M_differ 8 = .ok (.aload_n 0, 1) := by decide +kernel
theorem d_M_differ_9 : decode c_M_differ 9 = .ok (.iload_n 2, 1) := by decide +kernel
theorem d_M_differ_10 : decode c_M_differ 10 = .ok (.invokevirtual 90, 3) := by decide +kernel
theorem d_M_differ_13 : decode c_M_differ 13 = .ok (.ifCond .ne 5, 3) := by decide +kernel
theorem d_M_differ_16 : decode c_M_differ 16 = .ok (.iconst (-1), 1) := by decide +kernel
theorem d_M_differ_17 : decode c_M_differ 17 = .ok (.ireturn, 1) := by decide +kernel
theorem d_M_differ_18 : decode c_M_differ 18 = .ok (.iconst 0, 1) := by decide +kernel
theorem d_M_differ_19 : decode c_M_differ 19 = .ok (.istore_n 3, 1) := by decide +kernel
theorem d_M_differ_20 : decode c_M_differ 20 = .ok (.iconst 0, 1) := by decide +kernel
theorem d_M_differ_21 : decode c_M_differ 21 = .ok (.istore 4, 2) := by decide +kernel
theorem d_M_differ_23 : decode c_M_differ 23 = .ok (.iload 4, 2) := by decide +kernel
theorem d_M_differ_25 : decode c_M_differ 25 = .ok (.bipush 16, 2) := by decide +kernel
theorem d_M_differ_27 : decode c_M_differ 27 = .ok (.if_icmp .ge 39, 3) := by decide +kernel
theorem d_M_differ_30 : decode c_M_differ 30 = .ok (.aload_n 0, 1) := by decide +kernel
theorem d_M_differ_31 : decode c_M_differ 31 = .ok (.getfield 7, 3) := by decide +kernel
theorem d_M_differ_34 : decode c_M_differ 34 = .ok (.bipush 16, 2) := by decide +kernel
theorem d_M_differ_36 : decode c_M_differ 36 = .ok (.iload_n 1, 1) := by decide +kernel
theorem d_M_differ_37 : decode c_M_differ 37 = .ok (.imul, 1) := by decide +kernel
theorem d_M_differ_38 : decode c_M_differ 38 = .ok (.iload 4, 2) := by decide +kernel
theorem d_M_differ_40 : decode c_M_differ 40 = .ok (.iadd, 1) := by decide +kernel
theorem d_M_differ_41 : decode c_M_differ 41 = .ok (.iaload, 1) := by decide +kernel
theorem d_M_differ_42 : decode c_M_differ 42 = .ok (.aload_n 0, 1) := by decide +kernel
theorem d_M_differ_43 : decode c_M_differ 43 = .ok (.getfield 7, 3) := by decide +kernel
theorem d_M_differ_46 : decode c_M_differ 46 = .ok (.bipush 16, 2) := by decide +kernel
theorem d_M_differ_48 : decode c_M_differ 48 = .ok (.iload_n 2, 1) := by decide +kernel
theorem d_M_differ_49 : decode c_M_differ 49 = .ok (.imul, 1) := by decide +kernel
theorem d_M_differ_50 : decode c_M_differ 50 = .ok (.iload 4, 2) := by decide +kernel
theorem d_M_differ_52 : decode c_M_differ 52 = .ok (.iadd, 1) := by decide +kernel
theorem d_M_differ_53 : decode c_M_differ 53 = .ok (.iaload, 1) := by decide +kernel
theorem d_M_differ_54 : decode c_M_differ 54 = .ok (.if_icmp .eq 6, 3) := by decide +kernel
theorem d_M_differ_57 : decode c_M_differ 57 = .ok (.iinc 3 1, 3) := by decide +kernel
theorem d_M_differ_60 : decode c_M_differ 60 = .ok (.iinc 4 1, 3) := by decide +kernel
theorem d_M_differ_63 : decode c_M_differ 63 = .ok (.goto (-40), 3) := by decide +kernel
theorem d_M_differ_66 : decode c_M_differ 66 = .ok (.iload_n 3, 1) := by decide +kernel
theorem d_M_differ_67 : decode c_M_differ 67 = .ok (.ireturn, 1) := by decide +kernel
theorem d_M_clashing_0 : decode c_M_clashing 0 = .ok (.iload_n 1, 1) := by decide +kernel
theorem d_M_clashing_1 : decode c_M_clashing 1 = .ok (.iconst 0, 1) := by decide +kernel
theorem d_M_clashing_2 : decode c_M_clashing 2 = .ok (.bipush 15, 2) := by decide +kernel
theorem d_M_clashing_4 : decode c_M_clashing 4 = .ok (.invokestatic 42, 3) := by decide +kernel
theorem d_M_clashing_7 : decode c_M_clashing 7 = .ok (.ifCond .eq 16, 3) := by decide +kernel
theorem d_M_clashing_10 : decode c_M_clashing 10 = .ok (.aload_n 0, 1) := by decide +kernel
theorem d_M_clashing_11 : decode c_M_clashing 11 = .ok (.getfield 26, 3) := by decide +kernel
theorem d_M_clashing_14 : decode c_M_clashing 14 = .ok (.iload_n 1, 1) := by decide +kernel
theorem d_M_clashing_15 : decode c_M_clashing 15 = .ok (.baload, 1) := by decide +kernel
theorem d_M_clashing_16 : decode c_M_clashing 16 = .ok (.ifCond .eq 7, 3) := by decide +kernel
theorem d_M_clashing_19 : decode c_M_clashing 19 = .ok (.iconst 1, 1) := by decide +kernel
theorem d_M_clashing_20 : decode c_M_clashing 20 = .ok (.goto 4, 3) := by decide +kernel
theorem d_M_clashing_23 : decode c_M_clashing 23 = .ok (.iconst 0, 1) := by decide +kernel
theorem d_M_clashing_24 : decode c_M_clashing 24 = .ok (.ireturn, 1) := by decide +kernel
theorem d_M_alike_0 : decode c_M_alike 0 = .ok (.iconst 0, 1) := by decide +kernel
theorem d_M_alike_1 : decode c_M_alike 1 = .ok (.istore_n 3, 1) := by decide +kernel
theorem d_M_alike_2 : decode c_M_alike 2 = .ok (.iload_n 3, 1) := by decide +kernel
theorem d_M_alike_3 : decode c_M_alike 3 = .ok (.iconst 4, 1) := by decide +kernel
theorem d_M_alike_4 : decode c_M_alike 4 = .ok (.if_icmp .ge 30, 3) := by decide +kernel
theorem d_M_alike_7 : decode c_M_alike 7 = .ok (.aload_n 0, 1) := by decide +kernel
theorem d_M_alike_8 : decode c_M_alike 8 = .ok (.getfield 7, 3) := by decide +kernel
theorem d_M_alike_11 : decode c_M_alike 11 = .ok (.iload_n 1, 1) := by decide +kernel
theorem d_M_alike_12 : decode c_M_alike 12 = .ok (.iload_n 3, 1) := by decide +kernel
theorem d_M_alike_13 : decode c_M_alike 13 = .ok (.iadd, 1) := by decide +kernel
theorem d_M_alike_14 : decode c_M_alike 14 = .ok (.iaload, 1) := by decide +kernel
theorem d_M_alike_15 : decode c_M_alike 15 = .ok (.aload_n 0, 1) := by decide +kernel
theorem d_M_alike_16 : decode c_M_alike 16 = .ok (.getfield 7, 3) := by decide +kernel
theorem d_M_alike_19 : decode c_M_alike 19 = .ok (.iload_n 2, 1) := by decide +kernel
theorem d_M_alike_20 : decode c_M_alike 20 = .ok (.iload_n 3, 1) := by decide +kernel
theorem d_M_alike_21 : decode c_M_alike 21 = .ok (.iadd, 1) := by decide +kernel
theorem d_M_alike_22 : decode c_M_alike 22 = .ok (.iaload, 1) := by decide +kernel
theorem d_M_alike_23 : decode c_M_alike 23 = .ok (.if_icmp .eq 5, 3) := by decide +kernel
theorem d_M_alike_26 : decode c_M_alike 26 = .ok (.iconst 0, 1) := by decide +kernel
theorem d_M_alike_27 : decode c_M_alike 27 = .ok (.ireturn, 1) := by decide +kernel
theorem d_M_alike_28 : decode c_M_alike 28 = .ok (.iinc 3 1, 3) := by decide +kernel
theorem d_M_alike_31 : decode c_M_alike 31 = .ok (.goto (-29), 3) := by decide +kernel
theorem d_M_alike_34 : decode c_M_alike 34 = .ok (.iconst 1, 1) := by decide +kernel
theorem d_M_alike_35 : decode c_M_alike 35 = .ok (.ireturn, 1) := by decide +kernel
theorem d_M_folders_0 : decode c_M_folders 0 = .ok (.iconst 0, 1) := by decide +kernel
theorem d_M_folders_1 : decode c_M_folders 1 = .ok (.istore_n 1, 1) := by decide +kernel
theorem d_M_folders_2 : decode c_M_folders 2 = .ok (.bipush 16, 2) := by decide +kernel
theorem d_M_folders_4 : decode c_M_folders 4 = .ok (.istore_n 2, 1) := by decide +kernel
theorem d_M_folders_5 : decode c_M_folders 5 = .ok (.iload_n 2, 1) := by decide +kernel
theorem d_M_folders_6 : decode c_M_folders 6 = .ok (.sipush 496, 3) := by decide +kernel
theorem d_M_folders_9 : decode c_M_folders 9 = .ok (.if_icmp .ge 115, 3) := by decide +kernel
theorem d_M_folders_12 : decode c_M_folders 12 = .ok (.aload_n 0, 1) := by decide +kernel
theorem d_M_folders_13 : decode c_M_folders 13 = .ok (.getfield 13, 3) := by decide +kernel
theorem d_M_folders_16 : decode c_M_folders 16 = .ok (.iload_n 2, 1) := by decide +kernel
theorem d_M_folders_17 : decode c_M_folders 17 = .ok (.bipush 16, 2) := by decide +kernel
theorem d_M_folders_19 : decode c_M_folders 19 = .ok (.idiv, 1) := by decide +kernel
theorem d_M_folders_20 : decode c_M_folders 20 = .ok (.baload, 1) := by decide +kernel
theorem d_M_folders_21 : decode c_M_folders 21 = .ok (.ifCond .eq 43, 3) := by decide +kernel
theorem d_M_folders_24 : decode c_M_folders 24 = .ok (.aload_n 0, 1) := by decide +kernel
theorem d_M_folders_25 : decode c_M_folders 25 = .ok (.getfield 7, 3) := by decide +kernel
theorem d_M_folders_28 : decode c_M_folders 28 = .ok (.iload_n 2, 1) := by decide +kernel
theorem d_M_folders_29 : decode c_M_folders 29 = .ok (.iaload, 1) := by decide +kernel
theorem d_M_folders_30 : decode c_M_folders 30 = .ok (.aload_n 0, 1) := by decide +kernel
theorem d_M_folders_31 : decode c_M_folders 31 = .ok (.getfield 7, 3) := by decide +kernel
theorem d_M_folders_34 : decode c_M_folders 34 = .ok (.iload_n 2, 1) := by decide +kernel
theorem d_M_folders_35 : decode c_M_folders 35 = .ok (.iconst 1, 1) := by decide +kernel
theorem d_M_folders_36 : decode c_M_folders 36 = .ok (.iadd, 1) := by decide +kernel
theorem d_M_folders_37 : decode c_M_folders 37 = .ok (.iaload, 1) := by decide +kernel
theorem d_M_folders_38 : decode c_M_folders 38 = .ok (.ior, 1) := by decide +kernel
theorem d_M_folders_39 : decode c_M_folders 39 = .ok (.aload_n 0, 1) := by decide +kernel
theorem d_M_folders_40 : decode c_M_folders 40 = .ok (.getfield 7, 3) := by decide +kernel
theorem d_M_folders_43 : decode c_M_folders 43 = .ok (.iload_n 2, 1) := by decide +kernel
theorem d_M_folders_44 : decode c_M_folders 44 = .ok (.iconst 2, 1) := by decide +kernel
theorem d_M_folders_45 : decode c_M_folders 45 = .ok (.iadd, 1) := by decide +kernel
theorem d_M_folders_46 : decode c_M_folders 46 = .ok (.iaload, 1) := by decide +kernel
theorem d_M_folders_47 : decode c_M_folders 47 = .ok (.ior, 1) := by decide +kernel
theorem d_M_folders_48 : decode c_M_folders 48 = .ok (.aload_n 0, 1) := by decide +kernel
theorem d_M_folders_49 : decode c_M_folders 49 = .ok (.getfield 7, 3) := by decide +kernel
theorem d_M_folders_52 : decode c_M_folders 52 = .ok (.iload_n 2, 1) := by decide +kernel
theorem d_M_folders_53 : decode c_M_folders 53 = .ok (.iconst 3, 1) := by decide +kernel
theorem d_M_folders_54 : decode c_M_folders 54 = .ok (.iadd, 1) := by decide +kernel
theorem d_M_folders_55 : decode c_M_folders 55 = .ok (.iaload, 1) := by decide +kernel
theorem d_M_folders_56 : decode c_M_folders 56 = .ok (.ior, 1) := by decide +kernel
theorem d_M_folders_57 : decode c_M_folders 57 = .ok (.ifCond .eq 7, 3) := by decide +kernel
theorem d_M_folders_60 : decode c_M_folders 60 = .ok (.iconst 1, 1) := by decide +kernel
theorem d_M_folders_61 : decode c_M_folders 61 = .ok (.goto 4, 3) := by decide +kernel
theorem d_M_folders_64 : decode c_M_folders 64 = .ok (.iconst 0, 1) := by decide +kernel
theorem d_M_folders_65 : decode c_M_folders 65 = .ok (.istore_n 3, 1) := by decide +kernel
theorem d_M_folders_66 : decode c_M_folders 66 = .ok (.bipush 16, 2) := by decide +kernel
theorem d_M_folders_68 : decode c_M_folders 68 = .ok (.istore 4, 2) := by decide +kernel
theorem d_M_folders_70 : decode c_M_folders 70 = .ok (.iload 4, 2) := by decide +kernel
theorem d_M_folders_72 : decode c_M_folders 72 = .ok (.iload_n 2, 1) := by decide +kernel
theorem d_M_folders_73 : decode c_M_folders 73 = .ok (.if_icmp .ge 38, 3) := by decide +kernel
theorem d_M_folders_76 : decode c_M_folders 76 = .ok (.iload_n 3, 1) := by decide +kernel
theorem d_M_folders_77 : decode c_M_folders 77 = .ok (.ifCond .eq 28, 3) := by decide +kernel
theorem d_M_folders_80 : decode c_M_folders 80 = .ok (.aload_n 0, 1) := by decide +kernel
theorem d_M_folders_81 : decode c_M_folders 81 = .ok (.getfield 13, 3) := by decide +kernel
theorem d_M_folders_84 : decode c_M_folders 84 = .ok (.iload 4, 2) := by decide +kernel
theorem d_M_folders_86 : decode c_M_folders 86 = .ok (.bipush 16, 2) := by decide +kernel
theorem d_M_folders_88 : decode c_M_folders 88 = .ok (.idiv, 1) := by decide +kernel
theorem d_M_folders_89 : decode c_M_folders 89 = .ok (.baload, 1) := by decide +kernel
theorem d_M_folders_90 : decode c_M_folders 90 = .ok (.ifCond .eq 15, 3) := by decide +kernel
theorem d_M_folders_93 : decode c_M_folders 93 = .ok (.aload_n 0, 1) := by decide +kernel
theorem d_M_folders_94 : decode c_M_folders 94 = .ok (.iload_n 2, 1) := by decide +kernel
theorem d_M_folders_95 : decode c_M_folders 95 = .ok (.iload 4, 2) := by decide +kernel
theorem d_M_folders_97 : decode c_M_folders 97 = .ok (.invokevirtual 101, 3) := by decide +kernel
theorem d_M_folders_100 : decode c_M_folders 100 = .ok (.ifCond .eq 5, 3) := by decide +kernel
theorem d_M_folders_103 : decode c_M_folders 103 = .ok (.iconst 0, 1) := by decide +kernel
theorem d_M_folders_104 : decode c_M_folders 104 = .ok (.istore_n 3, 1) := by decide +kernel
theorem d_M_folders_105 : decode c_M_folders 105 = .ok (.iinc 4 4, 3) := by decide +kernel
theorem d_M_folders_108 : decode c_M_folders 108 = .ok (.goto (-38), 3) := by decide +kernel
theorem d_M_folders_111 : decode c_M_folders 111 = .ok (.iload_n 3, 1) := by decide +kernel
theorem d_M_folders_112 : decode c_M_folders 112 = .ok (.ifCond .eq 6, 3) := by decide +kernel
theorem d_M_folders_115 : decode c_M_folders 115 = .ok (.iinc 1 1, 3) := by decide +kernel
theorem d_M_folders_118 : decode c_M_folders 118 = .ok (.iinc 2 4, 3) := by decide +kernel
theorem d_M_folders_121 : decode c_M_folders 121 = .ok (.goto (-116), 3) := by decide +kernel
theorem d_M_folders_124 : decode c_M_folders 124 = .ok (.iload_n 1, 1) := by decide +kernel
theorem d_M_folders_125 : decode c_M_folders 125 = .ok (.ireturn, 1) := by decide +kernel
theorem d_M_roots_0 : decode c_M_roots 0 = .ok (.iconst 0, 1) := by decide +kernel
theorem d_M_roots_1 : decode c_M_roots 1 = .ok (.istore_n 1, 1) := by decide +kernel
theorem d_M_roots_2 : decode c_M_roots 2 = .ok (.iconst 1, 1) := by decide +kernel
theorem d_M_roots_3 : decode c_M_roots 3 = .ok (.istore_n 2, 1) := by decide +kernel
theorem d_M_roots_4 : decode c_M_roots 4 = .ok (.iload_n 2, 1) := by decide +kernel
theorem d_M_roots_5 : decode c_M_roots 5 = .ok (.bipush 31, 2) := by decide +kernel
theorem d_M_roots_7 : decode c_M_roots 7 = .ok (.if_icmp .ge 60, 3) := by decide +kernel
theorem d_M_roots_10 : decode c_M_roots 10 = .ok (.aload_n 0, 1) := by decide +kernel
theorem d_M_roots_11 : decode c_M_roots 11 = .ok (.getfield 13, 3) := by decide +kernel
theorem d_M_roots_14 : decode c_M_roots 14 = .ok (.iload_n 2, 1) := by decide +kernel
theorem d_M_roots_15 : decode c_M_roots 15 = .ok (.baload, 1) := by decide +kernel
theorem d_M_roots_16 : decode c_M_roots 16 = .ok (.istore_n 3, 1) := by decide +kernel
theorem d_M_roots_17 : decode c_M_roots 17 = .ok (.iconst 1, 1) := by decide +kernel
theorem d_M_roots_18 : decode c_M_roots 18 = .ok (.istore 4, 2) := by decide +kernel
theorem d_M_roots_20 : decode c_M_roots 20 = .ok (.iload 4, 2) := by decide +kernel
theorem d_M_roots_22 : decode c_M_roots 22 = .ok (.iload_n 2, 1) := by decide +kernel
theorem d_M_roots_23 : decode c_M_roots 23 = .ok (.if_icmp .ge 31, 3) := by decide +kernel
theorem d_M_roots_26 : decode c_M_roots 26 = .ok (.aload_n 0, 1) := by decide +kernel
theorem d_M_roots_27 : decode c_M_roots 27 = .ok (.getfield 13, 3) := by decide +kernel
theorem d_M_roots_30 : decode c_M_roots 30 = .ok (.iload 4, 2) := by decide +kernel
theorem d_M_roots_32 : decode c_M_roots 32 = .ok (.baload, 1) := by decide +kernel
theorem d_M_roots_33 : decode c_M_roots 33 = .ok (.ifCond .eq 15, 3) := by decide +kernel
theorem d_M_roots_36 : decode c_M_roots 36 = .ok (.aload_n 0, 1) := by decide +kernel
theorem d_M_roots_37 : decode c_M_roots 37 = .ok (.iload_n 2, 1) := by decide +kernel
theorem d_M_roots_38 : decode c_M_roots 38 = .ok (.iload 4, 2) := by decide +kernel
theorem d_M_roots_40 : decode c_M_roots 40 = .ok (.invokevirtual 50, 3) := by decide +kernel
theorem d_M_roots_43 : decode c_M_roots 43 = .ok (.ifCond .eq 5, 3) := by decide +kernel
theorem d_M_roots_46 : decode c_M_roots 46 = .ok (.iconst 0, 1) := by decide +kernel
theorem d_M_roots_47 : decode c_M_roots 47 = .ok (.istore_n 3, 1) := by decide +kernel
theorem d_M_roots_48 : decode c_M_roots 48 = .ok (.iinc 4 1, 3) := by decide +kernel
theorem d_M_roots_51 : decode c_M_roots 51 = .ok (.goto (-31), 3) := by decide +kernel
theorem d_M_roots_54 : decode c_M_roots 54 = .ok (.iload_n 3, 1) := by decide +kernel
theorem d_M_roots_55 : decode c_M_roots 55 = .ok (.ifCond .eq 6, 3) := by decide +kernel
theorem d_M_roots_58 : decode c_M_roots 58 = .ok (.iinc 1 1, 3) := by decide +kernel
theorem d_M_roots_61 : decode c_M_roots 61 = .ok (.iinc 2 1, 3) := by decide +kernel
theorem d_M_roots_64 : decode c_M_roots 64 = .ok (.goto (-60), 3) := by decide +kernel
theorem d_M_roots_67 : decode c_M_roots 67 = .ok (.iload_n 1, 1) := by decide +kernel
theorem d_M_roots_68 : decode c_M_roots 68 = .ok (.ireturn, 1) := by decide +kernel
theorem d_M_changed_0 : decode c_M_changed 0 = .ok (.iconst 0, 1) := by decide +kernel
theorem d_M_changed_1 : decode c_M_changed 1 = .ok (.istore_n 1, 1) := by decide +kernel
theorem d_M_changed_2 : decode c_M_changed 2 = .ok (.iconst 0, 1) := by decide +kernel
theorem d_M_changed_3 : decode c_M_changed 3 = .ok (.istore_n 2, 1) := by decide +kernel
theorem d_M_changed_4 : decode c_M_changed 4 = .ok (.iload_n 2, 1) := by decide +kernel
theorem d_M_changed_5 : decode c_M_changed 5 = .ok (.bipush 16, 2) := by decide +kernel
theorem d_M_changed_7 : decode c_M_changed 7 = .ok (.if_icmp .ge 35, 3) := by decide +kernel
theorem d_M_changed_10 : decode c_M_changed 10 = .ok (.aload_n 0, 1) := by decide +kernel
theorem d_M_changed_11 : decode c_M_changed 11 = .ok (.getfield 7, 3) := by decide +kernel
theorem d_M_changed_14 : decode c_M_changed 14 = .ok (.sipush 496, 3) := by decide +kernel
theorem d_M_changed_17 : decode c_M_changed 17 = .ok (.iload_n 2, 1) := by decide +kernel
theorem d_M_changed_18 : decode c_M_changed 18 = .ok (.iadd, 1) := by decide +kernel
theorem d_M_changed_19 : decode c_M_changed 19 = .ok (.iaload, 1) := by decide +kernel
theorem d_M_changed_20 : decode c_M_changed 20 = .ok (.aload_n 0, 1) := by decide +kernel
theorem d_M_changed_21 : decode c_M_changed 21 = .ok (.getfield 7, 3) := by decide +kernel
theorem d_M_changed_24 : decode c_M_changed 24 = .ok (.sipush 512, 3) := by decide +kernel
theorem d_M_changed_27 : decode c_M_changed 27 = .ok (.iload_n 2, 1) := by decide +kernel
theorem d_M_changed_28 : decode c_M_changed 28 = .ok (.iadd, 1) := by decide +kernel
theorem d_M_changed_29 : decode c_M_changed 29 = .ok (.iaload, 1) := by decide +kernel
theorem d_M_changed_30 : decode c_M_changed 30 = .ok (.if_icmp .eq 6, 3) := by decide +kernel
theorem d_M_changed_33 : decode c_M_changed 33 = .ok (.iinc 1 1, 3) := by decide +kernel
theorem d_M_changed_36 : decode c_M_changed 36 = .ok (.iinc 2 1, 3) := by decide +kernel
theorem d_M_changed_39 : decode c_M_changed 39 = .ok (.goto (-35), 3) := by decide +kernel
theorem d_M_changed_42 : decode c_M_changed 42 = .ok (.iload_n 1, 1) := by decide +kernel
theorem d_M_changed_43 : decode c_M_changed 43 = .ok (.ireturn, 1) := by decide +kernel
theorem d_M_count_0 : decode c_M_count 0 = .ok (.iconst 0, 1) := by decide +kernel
theorem d_M_count_1 : decode c_M_count 1 = .ok (.istore_n 2, 1) := by decide +kernel
theorem d_M_count_2 : decode c_M_count 2 = .ok (.iload_n 1, 1) := by decide +kernel
theorem d_M_count_3 : decode c_M_count 3 = .ok (.tableswitch 150 0 9 #[53, 82, 87, 92, 120, 125, 130, 135, 140, 145], 53) := by decide +kernel
theorem d_M_count_56 : decode c_M_count 56 = .ok (.iconst 1, 1) := by decide +kernel
theorem d_M_count_57 : decode c_M_count 57 = .ok (.istore_n 3, 1) := by decide +kernel
theorem d_M_count_58 : decode c_M_count 58 = .ok (.iload_n 3, 1) := by decide +kernel
theorem d_M_count_59 : decode c_M_count 59 = .ok (.sipush 10000, 3) := by decide +kernel
theorem d_M_count_62 : decode c_M_count 62 = .ok (.if_icmp .ge 21, 3) := by decide +kernel
theorem d_M_count_65 : decode c_M_count 65 = .ok (.aload_n 0, 1) := by decide +kernel
theorem d_M_count_66 : decode c_M_count 66 = .ok (.getfield 29, 3) := by decide +kernel
theorem d_M_count_69 : decode c_M_count 69 = .ok (.iload_n 3, 1) := by decide +kernel
theorem d_M_count_70 : decode c_M_count 70 = .ok (.baload, 1) := by decide +kernel
theorem d_M_count_71 : decode c_M_count 71 = .ok (.ifCond .eq 6, 3) := by decide +kernel
theorem d_M_count_74 : decode c_M_count 74 = .ok (.iinc 2 1, 3) := by decide +kernel
theorem d_M_count_77 : decode c_M_count 77 = .ok (.iinc 3 1, 3) := by decide +kernel
theorem d_M_count_80 : decode c_M_count 80 = .ok (.goto (-22), 3) := by decide +kernel
theorem d_M_count_83 : decode c_M_count 83 = .ok (.iload_n 2, 1) := by decide +kernel
theorem d_M_count_84 : decode c_M_count 84 = .ok (.ireturn, 1) := by decide +kernel
theorem d_M_count_85 : decode c_M_count 85 = .ok (.aload_n 0, 1) := by decide +kernel
theorem d_M_count_86 : decode c_M_count 86 = .ok (.invokevirtual 104, 3) := by decide +kernel
theorem d_M_count_89 : decode c_M_count 89 = .ok (.ireturn, 1) := by decide +kernel
theorem d_M_count_90 : decode c_M_count 90 = .ok (.aload_n 0, 1) := by decide +kernel
theorem d_M_count_91 : decode c_M_count 91 = .ok (.invokevirtual 107, 3) := by decide +kernel
theorem d_M_count_94 : decode c_M_count 94 = .ok (.ireturn, 1) := by decide +kernel
theorem d_M_count_95 : decode c_M_count 95 = .ok (.iconst 1, 1) := by decide +kernel
theorem d_M_count_96 : decode c_M_count 96 = .ok (.istore_n 3, 1) := by decide +kernel
theorem d_M_count_97 : decode c_M_count 97 = .ok (.iload_n 3, 1) := by decide +kernel
theorem d_M_count_98 : decode c_M_count 98 = .ok (.bipush 31, 2) := by decide +kernel
theorem d_M_count_100 : decode c_M_count 100 = .ok (.if_icmp .ge 21, 3) := by decide +kernel
theorem d_M_count_103 : decode c_M_count 103 = .ok (.aload_n 0, 1) := by decide +kernel
theorem d_M_count_104 : decode c_M_count 104 = .ok (.getfield 13, 3) := by decide +kernel
theorem d_M_count_107 : decode c_M_count 107 = .ok (.iload_n 3, 1) := by decide +kernel
theorem d_M_count_108 : decode c_M_count 108 = .ok (.baload, 1) := by decide +kernel
theorem d_M_count_109 : decode c_M_count 109 = .ok (.ifCond .eq 6, 3) := by decide +kernel
theorem d_M_count_112 : decode c_M_count 112 = .ok (.iinc 2 1, 3) := by decide +kernel
theorem d_M_count_115 : decode c_M_count 115 = .ok (.iinc 3 1, 3) := by decide +kernel
theorem d_M_count_118 : decode c_M_count 118 = .ok (.goto (-21), 3) := by decide +kernel
theorem d_M_count_121 : decode c_M_count 121 = .ok (.iload_n 2, 1) := by decide +kernel
theorem d_M_count_122 : decode c_M_count 122 = .ok (.ireturn, 1) := by decide +kernel
theorem d_M_count_123 : decode c_M_count 123 = .ok (.aload_n 0, 1) := by decide +kernel
theorem d_M_count_124 : decode c_M_count 124 = .ok (.getfield 58, 3) := by decide +kernel
theorem d_M_count_127 : decode c_M_count 127 = .ok (.ireturn, 1) := by decide +kernel
theorem d_M_count_128 : decode c_M_count 128 = .ok (.aload_n 0, 1) := by decide +kernel
theorem d_M_count_129 : decode c_M_count 129 = .ok (.getfield 38, 3) := by decide +kernel
theorem d_M_count_132 : decode c_M_count 132 = .ok (.ireturn, 1) := by decide +kernel
theorem d_M_count_133 : decode c_M_count 133 = .ok (.aload_n 0, 1) := by decide +kernel
theorem d_M_count_134 : decode c_M_count 134 = .ok (.invokevirtual 54, 3) := by decide +kernel
theorem d_M_count_137 : decode c_M_count 137 = .ok (.ireturn, 1) := by decide +kernel
theorem d_M_count_138 : decode c_M_count 138 = .ok (.aload_n 0, 1) := by decide +kernel
theorem d_M_count_139 : decode c_M_count 139 = .ok (.getfield 64, 3) := by decide +kernel
theorem d_M_count_142 : decode c_M_count 142 = .ok (.ireturn, 1) := by decide +kernel
theorem d_M_count_143 : decode c_M_count 143 = .ok (.aload_n 0, 1) := by decide +kernel
theorem d_M_count_144 : decode c_M_count 144 = .ok (.invokevirtual 61, 3) := by decide +kernel
theorem d_M_count_147 : decode c_M_count 147 = .ok (.ireturn, 1) := by decide +kernel
theorem d_M_count_148 : decode c_M_count 148 = .ok (.aload_n 0, 1) := by decide +kernel
theorem d_M_count_149 : decode c_M_count 149 = .ok (.invokevirtual 110, 3) := by decide +kernel
theorem d_M_count_152 : decode c_M_count 152 = .ok (.ireturn, 1) := by decide +kernel
theorem d_M_count_153 : decode c_M_count 153 = .ok (.iconst (-1), 1) := by decide +kernel
theorem d_M_count_154 : decode c_M_count 154 = .ok (.ireturn, 1) := by decide +kernel
theorem d_I_bitCount_0 : decode c_I_bitCount 0 = .ok (.iload_n 0, 1) := by decide +kernel
theorem d_I_bitCount_1 : decode c_I_bitCount 1 = .ok (.iload_n 0, 1) := by decide +kernel
theorem d_I_bitCount_2 : decode c_I_bitCount 2 = .ok (.iconst 1, 1) := by decide +kernel
theorem d_I_bitCount_3 : decode c_I_bitCount 3 = .ok (.iushr, 1) := by decide +kernel
theorem d_I_bitCount_4 : decode c_I_bitCount 4 = .ok (.ldc_w 265, 3) := by decide +kernel
theorem d_I_bitCount_7 : decode c_I_bitCount 7 = .ok (.iand, 1) := by decide +kernel
theorem d_I_bitCount_8 : decode c_I_bitCount 8 = .ok (.isub, 1) := by decide +kernel
theorem d_I_bitCount_9 : decode c_I_bitCount 9 = .ok (.istore_n 0, 1) := by decide +kernel
theorem d_I_bitCount_10 : decode c_I_bitCount 10 = .ok (.iload_n 0, 1) := by decide +kernel
theorem d_I_bitCount_11 : decode c_I_bitCount 11 = .ok (.ldc_w 266, 3) := by decide +kernel
theorem d_I_bitCount_14 : decode c_I_bitCount 14 = .ok (.iand, 1) := by decide +kernel
theorem d_I_bitCount_15 : decode c_I_bitCount 15 = .ok (.iload_n 0, 1) := by decide +kernel
theorem d_I_bitCount_16 : decode c_I_bitCount 16 = .ok (.iconst 2, 1) := by decide +kernel
theorem d_I_bitCount_17 : decode c_I_bitCount 17 = .ok (.iushr, 1) := by decide +kernel
theorem d_I_bitCount_18 : decode c_I_bitCount 18 = .ok (.ldc_w 266, 3) := by decide +kernel
theorem d_I_bitCount_21 : decode c_I_bitCount 21 = .ok (.iand, 1) := by decide +kernel
theorem d_I_bitCount_22 : decode c_I_bitCount 22 = .ok (.iadd, 1) := by decide +kernel
theorem d_I_bitCount_23 : decode c_I_bitCount 23 = .ok (.istore_n 0, 1) := by decide +kernel
theorem d_I_bitCount_24 : decode c_I_bitCount 24 = .ok (.iload_n 0, 1) := by decide +kernel
theorem d_I_bitCount_25 : decode c_I_bitCount 25 = .ok (.iload_n 0, 1) := by decide +kernel
theorem d_I_bitCount_26 : decode c_I_bitCount 26 = .ok (.iconst 4, 1) := by decide +kernel
theorem d_I_bitCount_27 : decode c_I_bitCount 27 = .ok (.iushr, 1) := by decide +kernel
theorem d_I_bitCount_28 : decode c_I_bitCount 28 = .ok (.iadd, 1) := by decide +kernel
theorem d_I_bitCount_29 : decode c_I_bitCount 29 = .ok (.ldc_w 267, 3) := by decide +kernel
theorem d_I_bitCount_32 : decode c_I_bitCount 32 = .ok (.iand, 1) := by decide +kernel
theorem d_I_bitCount_33 : decode c_I_bitCount 33 = .ok (.istore_n 0, 1) := by decide +kernel
theorem d_I_bitCount_34 : decode c_I_bitCount 34 = .ok (.iload_n 0, 1) := by decide +kernel
theorem d_I_bitCount_35 : decode c_I_bitCount 35 = .ok (.iload_n 0, 1) := by decide +kernel
theorem d_I_bitCount_36 : decode c_I_bitCount 36 = .ok (.bipush 8, 2) := by decide +kernel
theorem d_I_bitCount_38 : decode c_I_bitCount 38 = .ok (.iushr, 1) := by decide +kernel
theorem d_I_bitCount_39 : decode c_I_bitCount 39 = .ok (.iadd, 1) := by decide +kernel
theorem d_I_bitCount_40 : decode c_I_bitCount 40 = .ok (.istore_n 0, 1) := by decide +kernel
theorem d_I_bitCount_41 : decode c_I_bitCount 41 = .ok (.iload_n 0, 1) := by decide +kernel
theorem d_I_bitCount_42 : decode c_I_bitCount 42 = .ok (.iload_n 0, 1) := by decide +kernel
theorem d_I_bitCount_43 : decode c_I_bitCount 43 = .ok (.bipush 16, 2) := by decide +kernel
theorem d_I_bitCount_45 : decode c_I_bitCount 45 = .ok (.iushr, 1) := by decide +kernel
theorem d_I_bitCount_46 : decode c_I_bitCount 46 = .ok (.iadd, 1) := by decide +kernel
theorem d_I_bitCount_47 : decode c_I_bitCount 47 = .ok (.istore_n 0, 1) := by decide +kernel
theorem d_I_bitCount_48 : decode c_I_bitCount 48 = .ok (.iload_n 0, 1) := by decide +kernel
theorem d_I_bitCount_49 : decode c_I_bitCount 49 = .ok (.bipush 63, 2) := by decide +kernel
theorem d_I_bitCount_51 : decode c_I_bitCount 51 = .ok (.iand, 1) := by decide +kernel
theorem d_I_bitCount_52 : decode c_I_bitCount 52 = .ok (.ireturn, 1) := by decide +kernel
theorem d_J_bitCount_0 : decode c_J_bitCount 0 = .ok (.lload_n 0, 1) := by decide +kernel
theorem d_J_bitCount_1 : decode c_J_bitCount 1 = .ok (.lload_n 0, 1) := by decide +kernel
theorem d_J_bitCount_2 : decode c_J_bitCount 2 = .ok (.iconst 1, 1) := by decide +kernel
theorem d_J_bitCount_3 : decode c_J_bitCount 3 = .ok (.lushr, 1) := by decide +kernel
theorem d_J_bitCount_4 : decode c_J_bitCount 4 = .ok (.ldc2_w 314, 3) := by decide +kernel
theorem d_J_bitCount_7 : decode c_J_bitCount 7 = .ok (.land, 1) := by decide +kernel
theorem d_J_bitCount_8 : decode c_J_bitCount 8 = .ok (.lsub, 1) := by decide +kernel
theorem d_J_bitCount_9 : decode c_J_bitCount 9 = .ok (.lstore_n 0, 1) := by decide +kernel
theorem d_J_bitCount_10 : decode c_J_bitCount 10 = .ok (.lload_n 0, 1) := by decide +kernel
theorem d_J_bitCount_11 : decode c_J_bitCount 11 = .ok (.ldc2_w 316, 3) := by decide +kernel
theorem d_J_bitCount_14 : decode c_J_bitCount 14 = .ok (.land, 1) := by decide +kernel
theorem d_J_bitCount_15 : decode c_J_bitCount 15 = .ok (.lload_n 0, 1) := by decide +kernel
theorem d_J_bitCount_16 : decode c_J_bitCount 16 = .ok (.iconst 2, 1) := by decide +kernel
theorem d_J_bitCount_17 : decode c_J_bitCount 17 = .ok (.lushr, 1) := by decide +kernel
theorem d_J_bitCount_18 : decode c_J_bitCount 18 = .ok (.ldc2_w 316, 3) := by decide +kernel
theorem d_J_bitCount_21 : decode c_J_bitCount 21 = .ok (.land, 1) := by decide +kernel
theorem d_J_bitCount_22 : decode c_J_bitCount 22 = .ok (.ladd, 1) := by decide +kernel
theorem d_J_bitCount_23 : decode c_J_bitCount 23 = .ok (.lstore_n 0, 1) := by decide +kernel
theorem d_J_bitCount_24 : decode c_J_bitCount 24 = .ok (.lload_n 0, 1) := by decide +kernel
theorem d_J_bitCount_25 : decode c_J_bitCount 25 = .ok (.lload_n 0, 1) := by decide +kernel
theorem d_J_bitCount_26 : decode c_J_bitCount 26 = .ok (.iconst 4, 1) := by decide +kernel
theorem d_J_bitCount_27 : decode c_J_bitCount 27 = .ok (.lushr, 1) := by decide +kernel
theorem d_J_bitCount_28 : decode c_J_bitCount 28 = .ok (.ladd, 1) := by decide +kernel
theorem d_J_bitCount_29 : decode c_J_bitCount 29 = .ok (.ldc2_w 318, 3) := by decide +kernel
theorem d_J_bitCount_32 : decode c_J_bitCount 32 = .ok (.land, 1) := by decide +kernel
theorem d_J_bitCount_33 : decode c_J_bitCount 33 = .ok (.lstore_n 0, 1) := by decide +kernel
theorem d_J_bitCount_34 : decode c_J_bitCount 34 = .ok (.lload_n 0, 1) := by decide +kernel
theorem d_J_bitCount_35 : decode c_J_bitCount 35 = .ok (.lload_n 0, 1) := by decide +kernel
theorem d_J_bitCount_36 : decode c_J_bitCount 36 = .ok (.bipush 8, 2) := by decide +kernel
theorem d_J_bitCount_38 : decode c_J_bitCount 38 = .ok (.lushr, 1) := by decide +kernel
theorem d_J_bitCount_39 : decode c_J_bitCount 39 = .ok (.ladd, 1) := by decide +kernel
theorem d_J_bitCount_40 : decode c_J_bitCount 40 = .ok (.lstore_n 0, 1) := by decide +kernel
theorem d_J_bitCount_41 : decode c_J_bitCount 41 = .ok (.lload_n 0, 1) := by decide +kernel
theorem d_J_bitCount_42 : decode c_J_bitCount 42 = .ok (.lload_n 0, 1) := by decide +kernel
theorem d_J_bitCount_43 : decode c_J_bitCount 43 = .ok (.bipush 16, 2) := by decide +kernel
theorem d_J_bitCount_45 : decode c_J_bitCount 45 = .ok (.lushr, 1) := by decide +kernel
theorem d_J_bitCount_46 : decode c_J_bitCount 46 = .ok (.ladd, 1) := by decide +kernel
theorem d_J_bitCount_47 : decode c_J_bitCount 47 = .ok (.lstore_n 0, 1) := by decide +kernel
theorem d_J_bitCount_48 : decode c_J_bitCount 48 = .ok (.lload_n 0, 1) := by decide +kernel
theorem d_J_bitCount_49 : decode c_J_bitCount 49 = .ok (.lload_n 0, 1) := by decide +kernel
theorem d_J_bitCount_50 : decode c_J_bitCount 50 = .ok (.bipush 32, 2) := by decide +kernel
theorem d_J_bitCount_52 : decode c_J_bitCount 52 = .ok (.lushr, 1) := by decide +kernel
theorem d_J_bitCount_53 : decode c_J_bitCount 53 = .ok (.ladd, 1) := by decide +kernel
theorem d_J_bitCount_54 : decode c_J_bitCount 54 = .ok (.lstore_n 0, 1) := by decide +kernel
theorem d_J_bitCount_55 : decode c_J_bitCount 55 = .ok (.lload_n 0, 1) := by decide +kernel
theorem d_J_bitCount_56 : decode c_J_bitCount 56 = .ok (.l2i, 1) := by decide +kernel
theorem d_J_bitCount_57 : decode c_J_bitCount 57 = .ok (.bipush 127, 2) := by decide +kernel
theorem d_J_bitCount_59 : decode c_J_bitCount 59 = .ok (.iand, 1) := by decide +kernel
theorem d_J_bitCount_60 : decode c_J_bitCount 60 = .ok (.ireturn, 1) := by decide +kernel
end
section
/-! THE STATE: K j i = place i of array j (class: 0 work, 1 index, 2 mixture, 3 tips, 4 rootOf, 5 firstParents, 6 secondParents, 7 ancestors, 8 folderRow, 9 bits, 10 folders.numbers, 11 folders.stored, 12 roots.numbers, 13 roots.stored; reference: 14 content, 15 stored, 16 first, 17 second, 18 branch, 19 clashing, 20 blob, 21 marked, 22 other); K j 0 for the fields (class: 40 head, 41 merging, 42 clashes, 43 made, 44 stored, 45 folders.last, 46 roots.last; reference: 47 made, 48 head, 49 merging) -/
abbrev KT : Type := Nat → Nat → Nat
def vd_sa (K : KT) (j : Nat) (G : Nat → Nat) : KT := fun a => if a = j then G else K a
theorem vd_sa_o {K : KT} {j a : Nat} {G : Nat → Nat} (h : a ≠ j) : vd_sa K j G a = K a := if_neg h
theorem vd_sa_s {K : KT} {j : Nat} {G : Nat → Nat} : vd_sa K j G j = G := if_pos rfl
theorem vd_sa_sa {K : KT} {j : Nat} {G G' : Nat → Nat} : vd_sa (vd_sa K j G) j G' = vd_sa K j G' := by
  funext a
  by_cases h : a = j
  · subst h
    rw [vd_sa_s, vd_sa_s]
  · rw [vd_sa_o h, vd_sa_o h, vd_sa_o h]
theorem vd_sa_id {K : KT} {j : Nat} {G : Nat → Nat} (h : G = K j) : vd_sa K j G = K := by
  funext a
  by_cases ha : a = j
  · subst ha
    rw [vd_sa_s, h]
  · rw [vd_sa_o ha]
def vd_st (K : KT) (j i x : Nat) : KT := vd_sa K j (fun b => if b = i then x else K j b)
def vd_fl (K : KT) (j o n : Nat) (g : Nat → Nat) : KT := vd_sa K j (fun b => if o ≤ b ∧ b < o + n then g (b - o) else K j b)
theorem vd_st_o {K : KT} {j i x a : Nat} (h : a ≠ j) : vd_st K j i x a = K a := vd_sa_o h
theorem vd_st_s {K : KT} {j i x : Nat} : vd_st K j i x j = fun b => if b = i then x else K j b := vd_sa_s
theorem vd_fl_o {K : KT} {j o n a : Nat} {g : Nat → Nat} (h : a ≠ j) : vd_fl K j o n g a = K a := vd_sa_o h
theorem vd_fl_i {K : KT} {j o n : Nat} {g : Nat → Nat} : vd_fl K j o n g j = fun b => if o ≤ b ∧ b < o + n then g (b - o) else K j b := vd_sa_s
theorem vd_fl_0 {K : KT} {j o : Nat} {g : Nat → Nat} : vd_fl K j o 0 g = K := vd_sa_id (by
  funext b
  rw [if_neg (by omega)])
theorem vd_fl_s {K : KT} {j o n : Nat} {g : Nat → Nat} : vd_st (vd_fl K j o n g) j (o + n) (g n) = vd_fl K j o (n + 1) g := by
  unfold vd_st
  rw [vd_fl_i]
  unfold vd_fl
  rw [vd_sa_sa]
  congr 1
  funext b
  by_cases h1 : b = o + n
  · rw [if_pos h1, if_pos (by omega), h1, Nat.add_sub_cancel_left]
  · rw [if_neg h1]
    show (if o ≤ b ∧ b < o + n then g (b - o) else K j b) = if o ≤ b ∧ b < o + (n + 1) then g (b - o) else K j b
    by_cases h2 : o ≤ b ∧ b < o + n
    · rw [if_pos h2, if_pos (by omega)]
    · rw [if_neg h2, if_neg (by omega)]
/-- a step of a filling loop, by equations -/
theorem vd_fl_step {K K2 K3 : KT} {j o n i x : Nat} {g : Nat → Nat} (h2 : K2 = vd_fl K j o n g) (h3 : K3 = vd_st K2 j i x) (hi : i = o + n) (hx : x = g n) : K3 = vd_fl K j o (n + 1) g := by
  rw [h3, h2, hi, hx, vd_fl_s]
def vd_ln (j : Nat) : Nat := [16, 16, 16, 6, 31, 31, 31, 31, 4, 157, 484, 121, 124, 31, 544, 31, 31, 31, 6, 16, 10000, 31, 31].getD j 1
def vd_ub (j : Nat) : Nat := [9999, 9999, 9999, 30, 30, 30, 30, 2147483647, 120, 18446744073709551615, 9999, 1, 120, 1, 9999, 1, 30, 30, 30, 1, 1, 1, 1, 0, 0, 0, 0, 0, 0, 0, 0, 0, 0, 0, 0, 0, 0, 0, 0, 0, 5, 30, 65535, 30, 2147483647, 120, 30, 30, 5, 30].getD j 0
def vd_kn (j : Nat) : Nat := [0, 0, 0, 0, 0, 0, 0, 0, 0, 2, 0, 1, 0, 1, 0, 1, 0, 0, 0, 1, 1, 1, 1].getD j 9
def vd_Bd (K : KT) : Prop := ∀ j i, i < vd_ln j → K j i ≤ vd_ub j
theorem vd_Bd.st {K : KT} {j i x : Nat} (h : vd_Bd K) (hx : x ≤ vd_ub j) : vd_Bd (vd_st K j i x) := by
  intro a b hb
  by_cases ha : a = j
  · subst ha
    rw [vd_st_s]
    show (if b = i then x else K a b) ≤ vd_ub a
    split
    · exact hx
    · exact h a b hb
  · rw [vd_st_o ha]
    exact h a b hb
theorem vd_Bd.sa {K : KT} {j : Nat} {G : Nat → Nat} (h : vd_Bd K) (hx : ∀ b, b < vd_ln j → G b ≤ vd_ub j) : vd_Bd (vd_sa K j G) := by
  intro a b hb
  by_cases ha : a = j
  · subst ha
    rw [vd_sa_s]
    exact hx b hb
  · rw [vd_sa_o ha]
    exact h a b hb
theorem vd_ln_lt : ∀ j, vd_ln j < 2 ^ 31
  | 0 => by decide | 1 => by decide | 2 => by decide | 3 => by decide | 4 => by decide | 5 => by decide | 6 => by decide | 7 => by decide | 8 => by decide | 9 => by decide | 10 => by decide | 11 => by decide | 12 => by decide | 13 => by decide | 14 => by decide | 15 => by decide | 16 => by decide | 17 => by decide | 18 => by decide | 19 => by decide | 20 => by decide | 21 => by decide | 22 => by decide
  | _ + 23 => by show 1 < 2 ^ 31; decide
def vd_tys (D : va_G) : List (ClassId × FieldType) := [(D.1 50, .int), (D.1 51, .boolean), (D.1 52, .long)]
def vd_Ad (ad : Nat → Nat) (q : Nat) : Prop := ∃ j, (j < 23 ∨ (30 ≤ j ∧ j < 36)) ∧ q = ad j
def vd_wd (D : va_G) (ad : Nat → Nat) (K : KT) : va_W := [(ad 30, .inr (3, [.ref (ad 31), .ref (ad 0), .ref (ad 1), .ref (ad 2), .ref (ad 3), .int (nI (K 40 0)), .int (nI (K 41 0)), .int (nI (K 42 0))])),
  (ad 31, .inr (2, [.ref (ad 32), .ref (ad 33), .ref (ad 34), .ref (ad 4), .ref (ad 5), .ref (ad 6), .ref (ad 7), .ref (ad 8), .int (nI (K 43 0)), .int (nI (K 44 0))])),
  (ad 32, .inr (0, [.ref (ad 9)])),
  (ad 33, .inr (1, [.ref (ad 10), .ref (ad 11), .int (nI (K 45 0))])),
  (ad 34, .inr (1, [.ref (ad 12), .ref (ad 13), .int (nI (K 46 0))])),
  (ad 35, .inr (4, [.ref (ad 14), .ref (ad 15), .ref (ad 16), .ref (ad 17), .int (nI (K 47 0)), .ref (ad 18), .int (nI (K 48 0)), .int (nI (K 49 0)), .ref (ad 19), .ref (ad 20), .ref (ad 21), .ref (ad 22)])),
  (ad 0, .inl (D.1 50, 16, .inl (fun b => nI (K 0 b)))),
  (ad 1, .inl (D.1 50, 16, .inl (fun b => nI (K 1 b)))),
  (ad 2, .inl (D.1 50, 16, .inl (fun b => nI (K 2 b)))),
  (ad 3, .inl (D.1 50, 6, .inl (fun b => nI (K 3 b)))),
  (ad 4, .inl (D.1 50, 31, .inl (fun b => nI (K 4 b)))),
  (ad 5, .inl (D.1 50, 31, .inl (fun b => nI (K 5 b)))),
  (ad 6, .inl (D.1 50, 31, .inl (fun b => nI (K 6 b)))),
  (ad 7, .inl (D.1 50, 31, .inl (fun b => nI (K 7 b)))),
  (ad 8, .inl (D.1 50, 4, .inl (fun b => nI (K 8 b)))),
  (ad 9, .inl (D.1 52, 157, .inr (.inl (fun b => lN (K 9 b))))),
  (ad 10, .inl (D.1 50, 484, .inl (fun b => nI (K 10 b)))),
  (ad 11, .inl (D.1 51, 121, .inl (fun b => nI (K 11 b)))),
  (ad 12, .inl (D.1 50, 124, .inl (fun b => nI (K 12 b)))),
  (ad 13, .inl (D.1 51, 31, .inl (fun b => nI (K 13 b)))),
  (ad 14, .inl (D.1 50, 544, .inl (fun b => nI (K 14 b)))),
  (ad 15, .inl (D.1 51, 31, .inl (fun b => nI (K 15 b)))),
  (ad 16, .inl (D.1 50, 31, .inl (fun b => nI (K 16 b)))),
  (ad 17, .inl (D.1 50, 31, .inl (fun b => nI (K 17 b)))),
  (ad 18, .inl (D.1 50, 6, .inl (fun b => nI (K 18 b)))),
  (ad 19, .inl (D.1 51, 16, .inl (fun b => nI (K 19 b)))),
  (ad 20, .inl (D.1 51, 10000, .inl (fun b => nI (K 20 b)))),
  (ad 21, .inl (D.1 51, 31, .inl (fun b => nI (K 21 b)))),
  (ad 22, .inl (D.1 51, 31, .inl (fun b => nI (K 22 b))))]
theorem vd_at_i (D : va_G) (ad : Nat → Nat) (K : KT) : ∀ j, vd_kn j = 0 → (vd_wd D ad K)[6 + j]? = some (ad j, .inl (D.1 50, vd_ln j, .inl (fun b => nI (K j b))))
  | 0, _ => rfl
  | 1, _ => rfl
  | 2, _ => rfl
  | 3, _ => rfl
  | 4, _ => rfl
  | 5, _ => rfl
  | 6, _ => rfl
  | 7, _ => rfl
  | 8, _ => rfl
  | 9, h => absurd h (by decide)
  | 10, _ => rfl
  | 11, h => absurd h (by decide)
  | 12, _ => rfl
  | 13, h => absurd h (by decide)
  | 14, _ => rfl
  | 15, h => absurd h (by decide)
  | 16, _ => rfl
  | 17, _ => rfl
  | 18, _ => rfl
  | 19, h => absurd h (by decide)
  | 20, h => absurd h (by decide)
  | 21, h => absurd h (by decide)
  | 22, h => absurd h (by decide)
  | j + 23, h => absurd (show (9 : Nat) = 0 from h) (by decide)
theorem vd_set_i (D : va_G) (ad : Nat → Nat) (K : KT) (G : Nat → Nat) : ∀ j, vd_kn j = 0 → (vd_wd D ad K).set (6 + j) (ad j, .inl (D.1 50, vd_ln j, .inl (fun b => nI (G b)))) = vd_wd D ad (vd_sa K j G)
  | 0, _ => rfl
  | 1, _ => rfl
  | 2, _ => rfl
  | 3, _ => rfl
  | 4, _ => rfl
  | 5, _ => rfl
  | 6, _ => rfl
  | 7, _ => rfl
  | 8, _ => rfl
  | 9, h => absurd h (by decide)
  | 10, _ => rfl
  | 11, h => absurd h (by decide)
  | 12, _ => rfl
  | 13, h => absurd h (by decide)
  | 14, _ => rfl
  | 15, h => absurd h (by decide)
  | 16, _ => rfl
  | 17, _ => rfl
  | 18, _ => rfl
  | 19, h => absurd h (by decide)
  | 20, h => absurd h (by decide)
  | 21, h => absurd h (by decide)
  | 22, h => absurd h (by decide)
  | j + 23, h => absurd (show (9 : Nat) = 0 from h) (by decide)
theorem vd_at_z (D : va_G) (ad : Nat → Nat) (K : KT) : ∀ j, vd_kn j = 1 → (vd_wd D ad K)[6 + j]? = some (ad j, .inl (D.1 51, vd_ln j, .inl (fun b => nI (K j b))))
  | 0, h => absurd h (by decide)
  | 1, h => absurd h (by decide)
  | 2, h => absurd h (by decide)
  | 3, h => absurd h (by decide)
  | 4, h => absurd h (by decide)
  | 5, h => absurd h (by decide)
  | 6, h => absurd h (by decide)
  | 7, h => absurd h (by decide)
  | 8, h => absurd h (by decide)
  | 9, h => absurd h (by decide)
  | 10, h => absurd h (by decide)
  | 11, _ => rfl
  | 12, h => absurd h (by decide)
  | 13, _ => rfl
  | 14, h => absurd h (by decide)
  | 15, _ => rfl
  | 16, h => absurd h (by decide)
  | 17, h => absurd h (by decide)
  | 18, h => absurd h (by decide)
  | 19, _ => rfl
  | 20, _ => rfl
  | 21, _ => rfl
  | 22, _ => rfl
  | j + 23, h => absurd (show (9 : Nat) = 1 from h) (by decide)
theorem vd_set_z (D : va_G) (ad : Nat → Nat) (K : KT) (G : Nat → Nat) : ∀ j, vd_kn j = 1 → (vd_wd D ad K).set (6 + j) (ad j, .inl (D.1 51, vd_ln j, .inl (fun b => nI (G b)))) = vd_wd D ad (vd_sa K j G)
  | 0, h => absurd h (by decide)
  | 1, h => absurd h (by decide)
  | 2, h => absurd h (by decide)
  | 3, h => absurd h (by decide)
  | 4, h => absurd h (by decide)
  | 5, h => absurd h (by decide)
  | 6, h => absurd h (by decide)
  | 7, h => absurd h (by decide)
  | 8, h => absurd h (by decide)
  | 9, h => absurd h (by decide)
  | 10, h => absurd h (by decide)
  | 11, _ => rfl
  | 12, h => absurd h (by decide)
  | 13, _ => rfl
  | 14, h => absurd h (by decide)
  | 15, _ => rfl
  | 16, h => absurd h (by decide)
  | 17, h => absurd h (by decide)
  | 18, h => absurd h (by decide)
  | 19, _ => rfl
  | 20, _ => rfl
  | 21, _ => rfl
  | 22, _ => rfl
  | j + 23, h => absurd (show (9 : Nat) = 1 from h) (by decide)
theorem vd_at_l (D : va_G) (ad : Nat → Nat) (K : KT) : ∀ j, vd_kn j = 2 → (vd_wd D ad K)[6 + j]? = some (ad j, .inl (D.1 52, vd_ln j, .inr (.inl (fun b => lN (K j b)))))
  | 0, h => absurd h (by decide)
  | 1, h => absurd h (by decide)
  | 2, h => absurd h (by decide)
  | 3, h => absurd h (by decide)
  | 4, h => absurd h (by decide)
  | 5, h => absurd h (by decide)
  | 6, h => absurd h (by decide)
  | 7, h => absurd h (by decide)
  | 8, h => absurd h (by decide)
  | 9, _ => rfl
  | 10, h => absurd h (by decide)
  | 11, h => absurd h (by decide)
  | 12, h => absurd h (by decide)
  | 13, h => absurd h (by decide)
  | 14, h => absurd h (by decide)
  | 15, h => absurd h (by decide)
  | 16, h => absurd h (by decide)
  | 17, h => absurd h (by decide)
  | 18, h => absurd h (by decide)
  | 19, h => absurd h (by decide)
  | 20, h => absurd h (by decide)
  | 21, h => absurd h (by decide)
  | 22, h => absurd h (by decide)
  | j + 23, h => absurd (show (9 : Nat) = 2 from h) (by decide)
theorem vd_set_l (D : va_G) (ad : Nat → Nat) (K : KT) (G : Nat → Nat) : ∀ j, vd_kn j = 2 → (vd_wd D ad K).set (6 + j) (ad j, .inl (D.1 52, vd_ln j, .inr (.inl (fun b => lN (G b))))) = vd_wd D ad (vd_sa K j G)
  | 0, h => absurd h (by decide)
  | 1, h => absurd h (by decide)
  | 2, h => absurd h (by decide)
  | 3, h => absurd h (by decide)
  | 4, h => absurd h (by decide)
  | 5, h => absurd h (by decide)
  | 6, h => absurd h (by decide)
  | 7, h => absurd h (by decide)
  | 8, h => absurd h (by decide)
  | 9, _ => rfl
  | 10, h => absurd h (by decide)
  | 11, h => absurd h (by decide)
  | 12, h => absurd h (by decide)
  | 13, h => absurd h (by decide)
  | 14, h => absurd h (by decide)
  | 15, h => absurd h (by decide)
  | 16, h => absurd h (by decide)
  | 17, h => absurd h (by decide)
  | 18, h => absurd h (by decide)
  | 19, h => absurd h (by decide)
  | 20, h => absurd h (by decide)
  | 21, h => absurd h (by decide)
  | 22, h => absurd h (by decide)
  | j + 23, h => absurd (show (9 : Nat) = 2 from h) (by decide)
def vd_b (b : Bool) : Int32 := nI b.toNat
theorem vd_b_t : vd_b true = nI 1 := rfl
theorem vd_b_f : vd_b false = nI 0 := rfl
def vd_Cx (p : Program) (s : State) (m : MethodId) (c : Code) (cc : ByteArray) (nL : Nat) (args : Array Value) (own : String) (D : va_G) : Prop :=
  p.tables.exec = Jvm.exec ∧ c.code = cc ∧ c.maxLocals = nL ∧ s.vm.findClass own = some m.cls ∧ (∀ w ∈ vd_tbl, w.before args s = true) ∧ va_K D vwCl (vd_tys D) s
def vd_WS (D : va_G) (ad : Nat → Nat) (s : State) (K : KT) (H : Heap) (locs : List Loc) : Prop :=
  va_P D vwCl (vd_wd D ad K) H ∧ va_D (vd_Ad ad) (vd_wd D ad K) ∧ va_S (vd_Ad ad) s.heap H locs ∧ vd_Bd K
def vd_St (D : va_G) (ad : Nat → Nat) (K : KT) (U : State) : Prop :=
  va_P D vwCl (vd_wd D ad K) U.heap ∧ va_K D vwCl (vd_tys D) U ∧ va_D (vd_Ad ad) (vd_wd D ad K) ∧ vd_Bd K
abbrev vd_R (d lo : Nat) : Room := { frames := d, cells := 0, slots := 0, locals := lo }
abbrev vd_QI (D : va_G) (ad : Nat → Nat) (post : Int32 → KT → Prop) : Array Value → State → Outcome → State → Prop := va_Qi post (fun K' t => vd_St D ad K' t) (vd_Ad ad)
abbrev vd_QV (D : va_G) (ad : Nat → Nat) (post : KT → Prop) : Array Value → State → Outcome → State → Prop := va_Qv post (fun K' t => vd_St D ad K' t) (vd_Ad ad)
def vd_MI (l : Launch) (y : MethodName) (cc : ByteArray) (maxL : Nat) (ret : Option FieldType) (d lo : Nat) (D : va_G) (ad : Nat → Nat) (As : List Value) (K : KT) (post : Int32 → KT → Prop) : Prop :=
  Met l y (Cond.code y cc maxL ret :: vd_tbl) (vd_R d lo) (va_Pc As (fun U => vd_St D ad K U)) (vd_QI D ad post) 0 0 (vd_Ad ad)
def vd_MV (l : Launch) (y : MethodName) (cc : ByteArray) (maxL : Nat) (d lo : Nat) (D : va_G) (ad : Nat → Nat) (As : List Value) (K : KT) (post : KT → Prop) : Prop :=
  Met l y (Cond.code y cc maxL none :: vd_tbl) (vd_R d lo) (va_Pc As (fun U => vd_St D ad K U)) (vd_QV D ad post) 0 0 (vd_Ad ad)
/-- what is known of a method's name: instance methods, static methods -/
def vd_MO (y : MethodName) (bytes : ByteArray) (maxL : Nat) (ret : Option FieldType) (n : Nat) : Prop :=
  y.cls ≠ "java/lang/invoke/MethodHandle" ∧ y.cls ≠ "java/lang/invoke/VarHandle" ∧ (parseMethodDescriptor y.desc).map (fun d => d.parameters.length) = some n ∧ Cond.code y bytes maxL ret ∈ vd_tbl ∧ Cond.initialized y.cls ∈ vd_tbl
theorem vd_gd (h : vd_tbl.all goodWord = true) {y : MethodName} {bytes : ByteArray} {maxL : Nat} {ret : Option FieldType} (hc : Cond.code y bytes maxL ret ∈ vd_tbl) : GoodIn vd_tbl (Cond.code y bytes maxL ret :: vd_tbl) := by
  intro w hw
  have h1 : w ∈ vd_tbl := by
    rcases List.mem_cons.mp hw with rfl | h2
    · exact hc
    · exact h2
  exact ⟨h1, good_of_word (List.all_eq_true.mp h w h1)⟩
theorem vd_good : vd_tbl.all goodWord = true := List.all_eq_true.mpr (fun _ h => (List.mem_filter.mp h).2)
theorem vd_upd_i (K : KT) (j i x : Nat) : upd (fun b => nI (K j b)) i (nI x) = fun b => nI ((fun b => if b = i then x else K j b) b) := by
  funext b
  show (if b = i then nI x else nI (K j b)) = nI (if b = i then x else K j b)
  split <;> rfl
theorem vd_upd_l (K : KT) (j i x : Nat) : vp_updL (fun b => lN (K j b)) i (lN x) = fun b => lN ((fun b => if b = i then x else K j b) b) := by
  funext b
  show (if b = i then lN x else lN (K j b)) = lN (if b = i then x else K j b)
  split <;> rfl
theorem vd_nz : ∀ x, x ≤ 1 → vp_nar .boolean (nI x) = nI x := by
  intro x h
  rcases (show x = 0 ∨ x = 1 by omega) with rfl | rfl <;> decide
theorem vd_inc (a k : Nat) : nI a + Int32.ofInt (k : Int) = nI (a + k) := by
  rw [← nI_add]
  rfl
theorem vd_dec (a : Nat) : nI (a + 1) + Int32.ofInt (-1) = nI a := pk_m1 a
theorem vd_and (a b : Nat) : nI a &&& nI b = nI (a &&& b) := by
  apply Int32.toBitVec_inj.1
  show BitVec.ofNat 32 a &&& BitVec.ofNat 32 b = BitVec.ofNat 32 (a &&& b)
  apply BitVec.eq_of_getLsbD_eq
  intro i hi
  simp [hi]
theorem vd_or (a b : Nat) : nI a ||| nI b = nI (a ||| b) := by
  apply Int32.toBitVec_inj.1
  show BitVec.ofNat 32 a ||| BitVec.ofNat 32 b = BitVec.ofNat 32 (a ||| b)
  apply BitVec.eq_of_getLsbD_eq
  intro i hi
  simp [hi]
theorem vd_shl : ∀ y, y < 31 → nI 1 <<< (nI y &&& 31) = nI (2 ^ y) := by decide +kernel
theorem vd_cpy (K : KT) (j0 j1 sp dp n : Nat) : va_cpy (fun b => nI (K j0 b)) (fun b => nI (K j1 b)) sp dp n = fun b => nI ((fun b => if dp ≤ b ∧ b < dp + n then (fun b => K j0 (sp + b)) (b - dp) else K j1 b) b) := by
  funext b
  show (if dp ≤ b ∧ b < dp + n then nI (K j0 (sp + (b - dp))) else nI (K j1 b)) = nI (if dp ≤ b ∧ b < dp + n then K j0 (sp + (b - dp)) else K j1 b)
  split <;> rfl
theorem vd_wNat : Cond.native arraycopyName ∈ vd_tbl := vd_mt (by decide +kernel) (by decide +kernel)
theorem vd_wSta : Cond.static arraycopyName ∈ vd_tbl := vd_mt (by decide +kernel) (by decide +kernel)
theorem vd_wIni : Cond.initialized "java/lang/System" ∈ vd_tbl := vd_mt (by decide +kernel) (by decide +kernel)
section VDR
variable {p : Program} {l : Launch} {e : Env} {R : Room} {s : State} {m : MethodId} {args : Array Value} {below : List Frame} {meth : Method} {c : Code} {H : Heap} {locs : List Loc} {Q : State → Prop}
variable {cells slots : Nat} {cc : ByteArray} {pc nL : Nat} {ls : Array Slot} {rest : List Value} {own : String} {D : va_G} {ad : Nat → Nat} {K : KT}
theorem vd_iald (CX : vd_Cx p s m c cc nL args own D) (HW : vd_WS D ad s K H locs) {j i : Nat} (hj : vd_kn j = 0) (hi : i < vd_ln j) (hdg : decode cc pc = .ok (.iaload, 1))
    (kk : K j i ≤ vd_ub j → W p l e R s m args below meth c H locs cells slots Q (F0 m (pc + 1) ls (.int (nI (K j i)) :: rest))) : W p l e R s m args below meth c H locs cells slots Q (F0 m pc ls (.int (nI i) :: .ref (ad j) :: rest)) := by
  obtain ⟨hx, hb, -, -, -, hK⟩ := CX
  have hc : (nI i).toNatClampNeg = i := nI_clamp (Nat.lt_trans hi (vd_ln_lt j))
  have k2 := kk (HW.2.2.2 j i hi)
  refine va_iald (i := nI i) hx hb hK HW.1 (6 + j) 0 (vd_at_i D ad K j hj) rfl (vp_in_nI hi (vd_ln_lt j)) hdg ?_
  rw [hc]
  exact k2
theorem vd_zald (CX : vd_Cx p s m c cc nL args own D) (HW : vd_WS D ad s K H locs) {j i : Nat} (hj : vd_kn j = 1) (hi : i < vd_ln j) (hdg : decode cc pc = .ok (.baload, 1))
    (kk : K j i ≤ vd_ub j → W p l e R s m args below meth c H locs cells slots Q (F0 m (pc + 1) ls (.int (nI (K j i)) :: rest))) : W p l e R s m args below meth c H locs cells slots Q (F0 m pc ls (.int (nI i) :: .ref (ad j) :: rest)) := by
  obtain ⟨hx, hb, -, -, -, hK⟩ := CX
  have hc : (nI i).toNatClampNeg = i := nI_clamp (Nat.lt_trans hi (vd_ln_lt j))
  have k2 := kk (HW.2.2.2 j i hi)
  refine va_zald (i := nI i) hx hb hK HW.1 (6 + j) 1 (vd_at_z D ad K j hj) rfl (vp_in_nI hi (vd_ln_lt j)) hdg ?_
  rw [hc]
  exact k2
theorem vd_lald (CX : vd_Cx p s m c cc nL args own D) (HW : vd_WS D ad s K H locs) {j i : Nat} (hj : vd_kn j = 2) (hi : i < vd_ln j) (hdg : decode cc pc = .ok (.laload, 1))
    (kk : K j i ≤ vd_ub j → W p l e R s m args below meth c H locs cells slots Q (F0 m (pc + 1) ls (.long (lN (K j i)) :: rest))) : W p l e R s m args below meth c H locs cells slots Q (F0 m pc ls (.int (nI i) :: .ref (ad j) :: rest)) := by
  obtain ⟨hx, hb, -, -, -, hK⟩ := CX
  have hc : (nI i).toNatClampNeg = i := nI_clamp (Nat.lt_trans hi (vd_ln_lt j))
  have k2 := kk (HW.2.2.2 j i hi)
  refine va_lald (i := nI i) hx hb hK HW.1 (6 + j) 2 (vd_at_l D ad K j hj) rfl (vp_in_nI hi (vd_ln_lt j)) hdg ?_
  rw [hc]
  exact k2
theorem vd_iast (CX : vd_Cx p s m c cc nL args own D) (HW : vd_WS D ad s K H locs) {j i x : Nat} (hj : vd_kn j = 0) (hi : i < vd_ln j) (hv : x ≤ vd_ub j) (hdg : decode cc pc = .ok (.iastore, 1))
    (kk : ∀ (K' : KT) (H' : Heap) (locs' : List Loc), K' = vd_st K j i x → vd_WS D ad s K' H' locs' → W p l e R s m args below meth c H' locs' cells slots Q (F0 m (pc + 1) ls rest)) : W p l e R s m args below meth c H locs cells slots Q (F0 m pc ls (.int (nI x) :: .int (nI i) :: .ref (ad j) :: rest)) := by
  obtain ⟨hx, hb, -, -, -, hK⟩ := CX
  obtain ⟨hP, hD, hS, hB⟩ := HW
  have hc : (nI i).toNatClampNeg = i := nI_clamp (Nat.lt_trans hi (vd_ln_lt j))
  refine va_iast (i := nI i) (x := nI x) hx hb hK hP hD hS (6 + j) 0 (vd_at_i D ad K j hj) rfl (vp_in_nI hi (vd_ln_lt j)) hdg (fun H1 locs1 h1 h2 h3 => ?_)
  rw [hc, vd_upd_i, vd_set_i D ad K _ j hj] at h1 h2
  exact kk _ H1 locs1 rfl ⟨h1, h2, h3, hB.st hv⟩
theorem vd_zast (CX : vd_Cx p s m c cc nL args own D) (HW : vd_WS D ad s K H locs) {j i x : Nat} (hj : vd_kn j = 1) (hi : i < vd_ln j) (hv : x ≤ 1) (hu : x ≤ vd_ub j) (hdg : decode cc pc = .ok (.bastore, 1))
    (kk : ∀ (K' : KT) (H' : Heap) (locs' : List Loc), K' = vd_st K j i x → vd_WS D ad s K' H' locs' → W p l e R s m args below meth c H' locs' cells slots Q (F0 m (pc + 1) ls rest)) : W p l e R s m args below meth c H locs cells slots Q (F0 m pc ls (.int (nI x) :: .int (nI i) :: .ref (ad j) :: rest)) := by
  obtain ⟨hx, hb, -, -, -, hK⟩ := CX
  obtain ⟨hP, hD, hS, hB⟩ := HW
  have hc : (nI i).toNatClampNeg = i := nI_clamp (Nat.lt_trans hi (vd_ln_lt j))
  refine va_zast (i := nI i) (x := nI x) hx hb hK hP hD hS (6 + j) 1 (vd_at_z D ad K j hj) rfl (vp_in_nI hi (vd_ln_lt j)) hdg (fun H1 locs1 h1 h2 h3 => ?_)
  rw [hc, vd_nz x hv, vd_upd_i, vd_set_z D ad K _ j hj] at h1 h2
  exact kk _ H1 locs1 rfl ⟨h1, h2, h3, hB.st hu⟩
theorem vd_last (CX : vd_Cx p s m c cc nL args own D) (HW : vd_WS D ad s K H locs) {j i x : Nat} (hj : vd_kn j = 2) (hi : i < vd_ln j) (hv : x ≤ vd_ub j) (hdg : decode cc pc = .ok (.lastore, 1))
    (kk : ∀ (K' : KT) (H' : Heap) (locs' : List Loc), K' = vd_st K j i x → vd_WS D ad s K' H' locs' → W p l e R s m args below meth c H' locs' cells slots Q (F0 m (pc + 1) ls rest)) : W p l e R s m args below meth c H locs cells slots Q (F0 m pc ls (.long (lN x) :: .int (nI i) :: .ref (ad j) :: rest)) := by
  obtain ⟨hx, hb, -, -, -, hK⟩ := CX
  obtain ⟨hP, hD, hS, hB⟩ := HW
  have hc : (nI i).toNatClampNeg = i := nI_clamp (Nat.lt_trans hi (vd_ln_lt j))
  refine va_last (i := nI i) (x := lN x) hx hb hK hP hD hS (6 + j) 2 (vd_at_l D ad K j hj) rfl (vp_in_nI hi (vd_ln_lt j)) hdg (fun H1 locs1 h1 h2 h3 => ?_)
  rw [hc, vd_upd_l, vd_set_l D ad K _ j hj] at h1 h2
  exact kk _ H1 locs1 rfl ⟨h1, h2, h3, hB.st hv⟩
theorem vd_alen1 (CX : vd_Cx p s m c cc nL args own D) (HW : vd_WS D ad s K H locs) {j : Nat} (hj : vd_kn j = 1) (hdg : decode cc pc = .ok (.arraylength, 1))
    (kk : W p l e R s m args below meth c H locs cells slots Q (F0 m (pc + 1) ls (.int (nI (vd_ln j)) :: rest))) : W p l e R s m args below meth c H locs cells slots Q (F0 m pc ls (.ref (ad j) :: rest)) := by
  obtain ⟨hx, hb, -, -, -, hK⟩ := CX
  exact va_alen hx hb hK HW.1 (6 + j) 1 (vd_at_z D ad K j hj) rfl rfl hdg kk
theorem vd_alen2 (CX : vd_Cx p s m c cc nL args own D) (HW : vd_WS D ad s K H locs) {j : Nat} (hj : vd_kn j = 2) (hdg : decode cc pc = .ok (.arraylength, 1))
    (kk : W p l e R s m args below meth c H locs cells slots Q (F0 m (pc + 1) ls (.int (nI (vd_ln j)) :: rest))) : W p l e R s m args below meth c H locs cells slots Q (F0 m pc ls (.ref (ad j) :: rest)) := by
  obtain ⟨hx, hb, -, -, -, hK⟩ := CX
  exact va_alen hx hb hK HW.1 (6 + j) 2 (vd_at_l D ad K j hj) rfl rfl hdg kk
theorem vd_iadd (hx : p.tables.exec = Jvm.exec) (hb : c.code = cc) {x y : Nat} (hdg : decode cc pc = .ok (.iadd, 1)) (k : W p l e R s m args below meth c H locs cells slots Q (F0 m (pc + 1) ls (.int (nI (x + y)) :: rest))) : W p l e R s m args below meth c H locs cells slots Q (F0 m pc ls (.int (nI y) :: .int (nI x) :: rest)) := lv_iadd hx hb hdg (by rw [nI_add]; exact k)
theorem vd_imul (hx : p.tables.exec = Jvm.exec) (hb : c.code = cc) {x y : Nat} (hdg : decode cc pc = .ok (.imul, 1)) (k : W p l e R s m args below meth c H locs cells slots Q (F0 m (pc + 1) ls (.int (nI (x * y)) :: rest))) : W p l e R s m args below meth c H locs cells slots Q (F0 m pc ls (.int (nI y) :: .int (nI x) :: rest)) := lv_imul hx hb hdg (by rw [pk_mul]; exact k)
theorem vd_isub (hx : p.tables.exec = Jvm.exec) (hb : c.code = cc) {x y : Nat} (h : y ≤ x) (hdg : decode cc pc = .ok (.isub, 1)) (k : W p l e R s m args below meth c H locs cells slots Q (F0 m (pc + 1) ls (.int (nI (x - y)) :: rest))) : W p l e R s m args below meth c H locs cells slots Q (F0 m pc ls (.int (nI y) :: .int (nI x) :: rest)) := lv_isub hx hb hdg (by rw [pk_sub h]; exact k)
theorem vd_idiv (hx : p.tables.exec = Jvm.exec) (hb : c.code = cc) {x y : Nat} (h1 : x < 2 ^ 31) (h2 : 0 < y) (h3 : y < 2 ^ 31) (hdg : decode cc pc = .ok (.idiv, 1)) (k : W p l e R s m args below meth c H locs cells slots Q (F0 m (pc + 1) ls (.int (nI (x / y)) :: rest))) : W p l e R s m args below meth c H locs cells slots Q (F0 m pc ls (.int (nI y) :: .int (nI x) :: rest)) := lv_idiv hx hb hdg (nI_ne0 h2 h3) (by rw [pk_div h1 h2 h3]; exact k)
theorem vd_irem (hx : p.tables.exec = Jvm.exec) (hb : c.code = cc) {x y : Nat} (h1 : x < 2 ^ 31) (h2 : 0 < y) (h3 : y < 2 ^ 31) (hdg : decode cc pc = .ok (.irem, 1)) (k : W p l e R s m args below meth c H locs cells slots Q (F0 m (pc + 1) ls (.int (nI (x % y)) :: rest))) : W p l e R s m args below meth c H locs cells slots Q (F0 m pc ls (.int (nI y) :: .int (nI x) :: rest)) := lv_irem hx hb hdg (nI_ne0 h2 h3) (by rw [pk_rem h1 h2 h3]; exact k)
theorem vd_iand (hx : p.tables.exec = Jvm.exec) (hb : c.code = cc) {x y : Nat} (hdg : decode cc pc = .ok (.iand, 1)) (k : W p l e R s m args below meth c H locs cells slots Q (F0 m (pc + 1) ls (.int (nI (x &&& y)) :: rest))) : W p l e R s m args below meth c H locs cells slots Q (F0 m pc ls (.int (nI y) :: .int (nI x) :: rest)) := lv_iand hx hb hdg (by rw [vd_and]; exact k)
theorem vd_ior (hx : p.tables.exec = Jvm.exec) (hb : c.code = cc) {x y : Nat} (hdg : decode cc pc = .ok (.ior, 1)) (k : W p l e R s m args below meth c H locs cells slots Q (F0 m (pc + 1) ls (.int (nI (x ||| y)) :: rest))) : W p l e R s m args below meth c H locs cells slots Q (F0 m pc ls (.int (nI y) :: .int (nI x) :: rest)) := lv_ior hx hb hdg (by rw [vd_or]; exact k)
theorem vd_shl1 (hx : p.tables.exec = Jvm.exec) (hb : c.code = cc) {y : Nat} (h : y < 31) (hdg : decode cc pc = .ok (.ishl, 1)) (k : W p l e R s m args below meth c H locs cells slots Q (F0 m (pc + 1) ls (.int (nI (2 ^ y)) :: rest))) : W p l e R s m args below meth c H locs cells slots Q (F0 m pc ls (.int (nI y) :: .int (nI 1) :: rest)) := lv_ishl hx hb hdg (by rw [vd_shl y h]; exact k)
theorem vd_if_eq (hx : p.tables.exec = Jvm.exec) (hb : c.code = cc) {x : Nat} {off : Int} {tgt : Nat} (hdg : decode cc pc = .ok (.ifCond .eq off, 3)) (ht : (pc : Int) + off = (tgt : Int)) (hn : x < 2 ^ 31)
    (kt : x = 0 → W p l e R s m args below meth c H locs cells slots Q (F0 m tgt ls rest)) (kf : x ≠ 0 → W p l e R s m args below meth c H locs cells slots Q (F0 m (pc + 3) ls rest)) : W p l e R s m args below meth c H locs cells slots Q (F0 m pc ls (.int (nI x) :: rest)) :=
  lv_if_eq hx hb hdg ht (fun h => kt ((nI_eq hn (by decide)).mp h)) (fun h => kf (fun h2 => h (by rw [h2]; rfl)))
theorem vd_if_ne (hx : p.tables.exec = Jvm.exec) (hb : c.code = cc) {x : Nat} {off : Int} {tgt : Nat} (hdg : decode cc pc = .ok (.ifCond .ne off, 3)) (ht : (pc : Int) + off = (tgt : Int)) (hn : x < 2 ^ 31)
    (kt : x ≠ 0 → W p l e R s m args below meth c H locs cells slots Q (F0 m tgt ls rest)) (kf : x = 0 → W p l e R s m args below meth c H locs cells slots Q (F0 m (pc + 3) ls rest)) : W p l e R s m args below meth c H locs cells slots Q (F0 m pc ls (.int (nI x) :: rest)) :=
  lv_if_ne hx hb hdg ht (fun h => kt (fun h2 => h (by rw [h2]; rfl))) (fun h => kf ((nI_eq hn (by decide)).mp h))
theorem vd_if_gt (hx : p.tables.exec = Jvm.exec) (hb : c.code = cc) {x : Nat} {off : Int} {tgt : Nat} (hdg : decode cc pc = .ok (.ifCond .gt off, 3)) (ht : (pc : Int) + off = (tgt : Int)) (hn : x < 2 ^ 31)
    (kt : x ≠ 0 → W p l e R s m args below meth c H locs cells slots Q (F0 m tgt ls rest)) (kf : x = 0 → W p l e R s m args below meth c H locs cells slots Q (F0 m (pc + 3) ls rest)) : W p l e R s m args below meth c H locs cells slots Q (F0 m pc ls (.int (nI x) :: rest)) :=
  lv_if_gt hx hb hdg ht (fun h => kt (fun h2 => by rw [h2] at h; exact absurd h (by decide))) (fun h => kf (Classical.byContradiction fun h2 => h (nI_lt (Nat.pos_of_ne_zero h2) hn)))
theorem vd_if_le (hx : p.tables.exec = Jvm.exec) (hb : c.code = cc) {x : Nat} {off : Int} {tgt : Nat} (hdg : decode cc pc = .ok (.ifCond .le off, 3)) (ht : (pc : Int) + off = (tgt : Int)) (hn : x < 2 ^ 31)
    (kt : x = 0 → W p l e R s m args below meth c H locs cells slots Q (F0 m tgt ls rest)) (kf : x ≠ 0 → W p l e R s m args below meth c H locs cells slots Q (F0 m (pc + 3) ls rest)) : W p l e R s m args below meth c H locs cells slots Q (F0 m pc ls (.int (nI x) :: rest)) :=
  lv_if_le hx hb hdg ht (fun h => kt (Classical.byContradiction fun h2 => nI_nle (Nat.pos_of_ne_zero h2) hn h)) (fun h => kf (fun h2 => h (by rw [h2]; decide)))
theorem vd_icmp_ge (hx : p.tables.exec = Jvm.exec) (hb : c.code = cc) {x y : Nat} {off : Int} {tgt : Nat} (hdg : decode cc pc = .ok (.if_icmp .ge off, 3)) (ht : (pc : Int) + off = (tgt : Int)) (h1 : x < 2 ^ 31) (h2 : y < 2 ^ 31)
    (kt : y ≤ x → W p l e R s m args below meth c H locs cells slots Q (F0 m tgt ls rest)) (kf : x < y → W p l e R s m args below meth c H locs cells slots Q (F0 m (pc + 3) ls rest)) : W p l e R s m args below meth c H locs cells slots Q (F0 m pc ls (.int (nI y) :: .int (nI x) :: rest)) :=
  lv_icmp_ge hx hb hdg ht (fun h => kt ((nI_leI h2 h1).mp h)) (fun h => kf (Nat.lt_of_not_le fun q => h ((nI_leI h2 h1).mpr q)))
theorem vd_icmp_gt (hx : p.tables.exec = Jvm.exec) (hb : c.code = cc) {x y : Nat} {off : Int} {tgt : Nat} (hdg : decode cc pc = .ok (.if_icmp .gt off, 3)) (ht : (pc : Int) + off = (tgt : Int)) (h1 : x < 2 ^ 31) (h2 : y < 2 ^ 31)
    (kt : y < x → W p l e R s m args below meth c H locs cells slots Q (F0 m tgt ls rest)) (kf : x ≤ y → W p l e R s m args below meth c H locs cells slots Q (F0 m (pc + 3) ls rest)) : W p l e R s m args below meth c H locs cells slots Q (F0 m pc ls (.int (nI y) :: .int (nI x) :: rest)) :=
  lv_icmp_gt hx hb hdg ht (fun h => kt ((nI_ltI h2 h1).mp h)) (fun h => kf (Nat.le_of_not_lt fun q => h ((nI_ltI h2 h1).mpr q)))
theorem vd_icmp_lt (hx : p.tables.exec = Jvm.exec) (hb : c.code = cc) {x y : Nat} {off : Int} {tgt : Nat} (hdg : decode cc pc = .ok (.if_icmp .lt off, 3)) (ht : (pc : Int) + off = (tgt : Int)) (h1 : x < 2 ^ 31) (h2 : y < 2 ^ 31)
    (kt : x < y → W p l e R s m args below meth c H locs cells slots Q (F0 m tgt ls rest)) (kf : y ≤ x → W p l e R s m args below meth c H locs cells slots Q (F0 m (pc + 3) ls rest)) : W p l e R s m args below meth c H locs cells slots Q (F0 m pc ls (.int (nI y) :: .int (nI x) :: rest)) :=
  lv_icmp_lt hx hb hdg ht (fun h => kt ((nI_ltI h1 h2).mp h)) (fun h => kf (Nat.le_of_not_lt fun q => h ((nI_ltI h1 h2).mpr q)))
theorem vd_icmp_le (hx : p.tables.exec = Jvm.exec) (hb : c.code = cc) {x y : Nat} {off : Int} {tgt : Nat} (hdg : decode cc pc = .ok (.if_icmp .le off, 3)) (ht : (pc : Int) + off = (tgt : Int)) (h1 : x < 2 ^ 31) (h2 : y < 2 ^ 31)
    (kt : x ≤ y → W p l e R s m args below meth c H locs cells slots Q (F0 m tgt ls rest)) (kf : y < x → W p l e R s m args below meth c H locs cells slots Q (F0 m (pc + 3) ls rest)) : W p l e R s m args below meth c H locs cells slots Q (F0 m pc ls (.int (nI y) :: .int (nI x) :: rest)) :=
  lv_icmp_le hx hb hdg ht (fun h => kt ((nI_leI h1 h2).mp h)) (fun h => kf (Nat.lt_of_not_le fun q => h ((nI_leI h1 h2).mpr q)))
theorem vd_icmp_eq (hx : p.tables.exec = Jvm.exec) (hb : c.code = cc) {x y : Nat} {off : Int} {tgt : Nat} (hdg : decode cc pc = .ok (.if_icmp .eq off, 3)) (ht : (pc : Int) + off = (tgt : Int)) (h1 : x < 2 ^ 31) (h2 : y < 2 ^ 31)
    (kt : x = y → W p l e R s m args below meth c H locs cells slots Q (F0 m tgt ls rest)) (kf : x ≠ y → W p l e R s m args below meth c H locs cells slots Q (F0 m (pc + 3) ls rest)) : W p l e R s m args below meth c H locs cells slots Q (F0 m pc ls (.int (nI y) :: .int (nI x) :: rest)) :=
  lv_icmp_eq hx hb hdg ht (fun h => kt ((nI_eq h1 h2).mp h)) (fun h => kf (fun q => h (by rw [q])))
theorem vd_icmp_ne (hx : p.tables.exec = Jvm.exec) (hb : c.code = cc) {x y : Nat} {off : Int} {tgt : Nat} (hdg : decode cc pc = .ok (.if_icmp .ne off, 3)) (ht : (pc : Int) + off = (tgt : Int)) (h1 : x < 2 ^ 31) (h2 : y < 2 ^ 31)
    (kt : x ≠ y → W p l e R s m args below meth c H locs cells slots Q (F0 m tgt ls rest)) (kf : x = y → W p l e R s m args below meth c H locs cells slots Q (F0 m (pc + 3) ls rest)) : W p l e R s m args below meth c H locs cells slots Q (F0 m pc ls (.int (nI y) :: .int (nI x) :: rest)) :=
  lv_icmp_ne hx hb hdg ht (fun h => kt (fun q => h (by rw [q]))) (fun h => kf ((nI_eq h1 h2).mp h))
theorem vd_ifb_eq (hx : p.tables.exec = Jvm.exec) (hb : c.code = cc) {b : Bool} {off : Int} {tgt : Nat} (hdg : decode cc pc = .ok (.ifCond .eq off, 3)) (ht : (pc : Int) + off = (tgt : Int))
    (kt : b = false → W p l e R s m args below meth c H locs cells slots Q (F0 m tgt ls rest)) (kf : b = true → W p l e R s m args below meth c H locs cells slots Q (F0 m (pc + 3) ls rest)) : W p l e R s m args below meth c H locs cells slots Q (F0 m pc ls (.int (vd_b b) :: rest)) := by
  cases b with
  | false => exact lv_if_eq hx hb hdg ht (fun _ => kt rfl) (fun h => absurd (by decide) h)
  | true => exact lv_if_eq hx hb hdg ht (fun h => absurd h (by decide)) (fun _ => kf rfl)
theorem vd_ifb_ne (hx : p.tables.exec = Jvm.exec) (hb : c.code = cc) {b : Bool} {off : Int} {tgt : Nat} (hdg : decode cc pc = .ok (.ifCond .ne off, 3)) (ht : (pc : Int) + off = (tgt : Int))
    (kt : b = true → W p l e R s m args below meth c H locs cells slots Q (F0 m tgt ls rest)) (kf : b = false → W p l e R s m args below meth c H locs cells slots Q (F0 m (pc + 3) ls rest)) : W p l e R s m args below meth c H locs cells slots Q (F0 m pc ls (.int (vd_b b) :: rest)) := by
  cases b with
  | false => exact lv_if_ne hx hb hdg ht (fun h => absurd (by decide) h) (fun _ => kf rfl)
  | true => exact lv_if_ne hx hb hdg ht (fun _ => kt rfl) (fun h => absurd h (by decide))
theorem vd_copy (CX : vd_Cx p s m c cc nL args own D) (HW : vd_WS D ad s K H locs) {j0 j1 sp dp n index : Nat} (h0 : vd_kn j0 = 0) (h1 : vd_kn j1 = 0) (hs : sp + n ≤ vd_ln j0) (hd : dp + n ≤ vd_ln j1) (hu : ∀ b, b < n → K j0 (sp + b) ≤ vd_ub j1) (hlk : Cond.methodLink own index arraycopyName ∈ vd_tbl) (hsz : ls.size = nL)
    (hf : 1 ≤ R.frames) (hlo : (rest.map fun v => v.category).sum + (nativeFrameWords "java/lang/System" "arraycopy" 5 + 11) ≤ R.locals) (hdg : decode cc pc = .ok (.invokestatic index, 3))
    (kk : ∀ (K' : KT) (H' : Heap) (locs' : List Loc), K' = vd_fl K j1 dp n (fun b => K j0 (sp + b)) → vd_WS D ad s K' H' locs' → W p l e R s m args below meth c H' locs' cells slots Q (F0 m (pc + 3) ls rest)) : W p l e R s m args below meth c H locs cells slots Q (F0 m pc ls (.int (nI n) :: .int (nI dp) :: .ref (ad j1) :: .int (nI sp) :: .ref (ad j0) :: rest)) := by
  obtain ⟨hx, hb, hml, hown, hts, hK⟩ := CX
  obtain ⟨hP, hD, hS, hB⟩ := HW
  have l0 := vd_ln_lt j0
  have l1 := vd_ln_lt j1
  have b1 : sp < 2 ^ 31 := by omega
  have b2 : dp < 2 ^ 31 := by omega
  have b3 : n < 2 ^ 31 := by omega
  have c1 : (nI sp).toNatClampNeg = sp := nI_clamp b1
  have c2 : (nI dp).toNatClampNeg = dp := nI_clamp b2
  have c3 : (nI n).toNatClampNeg = n := nI_clamp b3
  refine va_copyi (sp := nI sp) (dp := nI dp) (n := nI n) hx hb (hml.trans hsz.symm) hown (hts _ hlk) (hts _ vd_wNat) (hts _ vd_wSta) (hts _ vd_wIni) hK hP hD hS (6 + j0) (6 + j1) 0 0 (vd_at_i D ad K j0 h0) (vd_at_i D ad K j1 h1) rfl rfl rfl (nI_pos b1) (nI_pos b2) (nI_pos b3) (by rw [c1, c3]; exact hs) (by rw [c2, c3]; exact hd) (fun i _ => rfl) hf hlo hdg (fun H1 locs1 h1' h2' h3 => ?_)
  rw [c1, c2, c3, vd_cpy, vd_set_i D ad K _ j1 h1] at h1' h2'
  refine kk _ H1 locs1 rfl ⟨h1', h2', h3, hB.sa (fun b hb2 => ?_)⟩
  show (if dp ≤ b ∧ b < dp + n then K j0 (sp + (b - dp)) else K j1 b) ≤ vd_ub j1
  split
  · exact hu _ (by omega)
  · exact hB j1 b hb2
/-- calls: the whole world goes to the callee and comes back -/
theorem vd_blind {As : List Value} : FrameBlind (va_Pc As (fun U => vd_St D ad K U)) := fun a U g mk q => by
  obtain ⟨q0, qP, qK, qD, qB⟩ := q
  exact ⟨q0, qP, va_K.moved (u := U) (U := U.calling g mk a) (Vm.Alike.refl U.vm) qK, qD, qB⟩
theorem vd_callVi {y : MethodName} {bytes : ByteArray} {maxL d lo n index b : Nat} {ret : Option FieldType} {As st0 : List Value} {post : Int32 → KT → Prop} (CX : vd_Cx p s m c cc nL args own D) (HW : vd_WS D ad s K H locs)
    (hM : vd_MI l y bytes maxL ret d lo D ad (.ref b :: As) K post) (hy : vd_MO y bytes maxL ret n) (hin : Cond.instanceMethod y ∈ vd_tbl) (hse : Cond.selects y.cls y y ∈ vd_tbl) (hrc : ∃ cell : Cell, H[b]? = some cell ∧ cell.vm.isStatics = false ∧ s.vm.findClass y.cls = some cell.cls) (hlk : Cond.methodLink own index y ∈ vd_tbl)
    (hst : st0 = As.reverse ++ .ref b :: rest) (hn : As.length = n) (hR : d + 1 ≤ R.frames ∧ 8 + (maxL + 11) + lo ≤ R.locals) (hsz : ls.size = nL) (hW : (rest.map fun v => v.category).sum ≤ 8) (hdg : decode cc pc = .ok (.invokevirtual index, 3)) (hcs : cells ≤ R.cells ∧ slots ≤ R.slots)
    (kk : ∀ (r : Int32) (K' : KT) (H' : Heap) (locs' : List Loc), post r K' → vd_WS D ad s K' H' locs' → W p l e R s m args below meth c H' locs' cells slots Q (F0 m (pc + 3) ls (.int r :: rest))) : W p l e R s m args below meth c H locs cells slots Q (F0 m pc ls st0) := by
  obtain ⟨hx, hb, hml, hown, hts, hK⟩ := CX
  obtain ⟨hP, hD, hS, hB⟩ := HW
  obtain ⟨y1, y2, y3, y4, y5⟩ := hy
  have cw : CallW R s args own y.cls index y bytes maxL ret (Cond.code y bytes maxL ret :: vd_tbl) (vd_R d lo) 0 0 n := ⟨callB_of n hts (vd_gd vd_good y4) rfl rfl rfl (hts _ y5) (hts _ hlk) ⟨y1, y2, y3⟩ hR, hts _ hin, hts _ hse⟩
  refine va_calli (va_runV (As := As) (rest := rest) ⟨hx, hb, hml, hown, hts⟩ hM cw ⟨vd_blind, hrc, fun U hU hW => ⟨rfl, by rw [hU]; exact hP, va_K.moved hW.alike hK, hD, hB⟩⟩ rfl hn hsz hst (lv_room hW) hdg hcs) hS (fun q _ h => h) (fun q h => h) (fun r u t H1 locs1 ht hvm hw hB1 hz1 hk1 hS1 => ?_)
  obtain ⟨g1, g2, g3, g4⟩ := hB1
  rw [ht] at g1
  exact kk r u H1 locs1 hw ⟨g1, g3, hS1, g4⟩
theorem vd_callVv {y : MethodName} {bytes : ByteArray} {maxL d lo n index b : Nat} {As st0 : List Value} {post : KT → Prop} (CX : vd_Cx p s m c cc nL args own D) (HW : vd_WS D ad s K H locs)
    (hM : vd_MV l y bytes maxL d lo D ad (.ref b :: As) K post) (hy : vd_MO y bytes maxL none n) (hin : Cond.instanceMethod y ∈ vd_tbl) (hse : Cond.selects y.cls y y ∈ vd_tbl) (hrc : ∃ cell : Cell, H[b]? = some cell ∧ cell.vm.isStatics = false ∧ s.vm.findClass y.cls = some cell.cls) (hlk : Cond.methodLink own index y ∈ vd_tbl)
    (hst : st0 = As.reverse ++ .ref b :: rest) (hn : As.length = n) (hR : d + 1 ≤ R.frames ∧ 8 + (maxL + 11) + lo ≤ R.locals) (hsz : ls.size = nL) (hW : (rest.map fun v => v.category).sum ≤ 8) (hdg : decode cc pc = .ok (.invokevirtual index, 3)) (hcs : cells ≤ R.cells ∧ slots ≤ R.slots)
    (kk : ∀ (K' : KT) (H' : Heap) (locs' : List Loc), post K' → vd_WS D ad s K' H' locs' → W p l e R s m args below meth c H' locs' cells slots Q (F0 m (pc + 3) ls rest)) : W p l e R s m args below meth c H locs cells slots Q (F0 m pc ls st0) := by
  obtain ⟨hx, hb, hml, hown, hts, hK⟩ := CX
  obtain ⟨hP, hD, hS, hB⟩ := HW
  obtain ⟨y1, y2, y3, y4, y5⟩ := hy
  have cw : CallW R s args own y.cls index y bytes maxL none (Cond.code y bytes maxL none :: vd_tbl) (vd_R d lo) 0 0 n := ⟨callB_of n hts (vd_gd vd_good y4) rfl rfl rfl (hts _ y5) (hts _ hlk) ⟨y1, y2, y3⟩ hR, hts _ hin, hts _ hse⟩
  refine va_callv (va_runV (As := As) (rest := rest) ⟨hx, hb, hml, hown, hts⟩ hM cw ⟨vd_blind, hrc, fun U hU hW => ⟨rfl, by rw [hU]; exact hP, va_K.moved hW.alike hK, hD, hB⟩⟩ rfl hn hsz hst (lv_room hW) hdg hcs) hS (fun q _ h => h) (fun q h => h) (fun u t H1 locs1 ht hvm hw hB1 hz1 hk1 hS1 => ?_)
  obtain ⟨g1, g2, g3, g4⟩ := hB1
  rw [ht] at g1
  exact kk u H1 locs1 hw ⟨g1, g3, hS1, g4⟩
theorem vd_callSi {y : MethodName} {bytes : ByteArray} {maxL d lo n index : Nat} {ret : Option FieldType} {As st0 : List Value} {post : Int32 → KT → Prop} (CX : vd_Cx p s m c cc nL args own D) (HW : vd_WS D ad s K H locs)
    (hM : vd_MI l y bytes maxL ret d lo D ad As K post) (hy : vd_MO y bytes maxL ret n) (hstt : Cond.static y ∈ vd_tbl) (hlk : Cond.methodLink own index y ∈ vd_tbl)
    (hst : st0 = As.reverse ++ rest) (hn : As.length = n) (hR : d + 1 ≤ R.frames ∧ 8 + (maxL + 11) + lo ≤ R.locals) (hsz : ls.size = nL) (hW : (rest.map fun v => v.category).sum ≤ 8) (hdg : decode cc pc = .ok (.invokestatic index, 3)) (hcs : cells ≤ R.cells ∧ slots ≤ R.slots)
    (kk : ∀ (r : Int32) (K' : KT) (H' : Heap) (locs' : List Loc), post r K' → vd_WS D ad s K' H' locs' → W p l e R s m args below meth c H' locs' cells slots Q (F0 m (pc + 3) ls (.int r :: rest))) : W p l e R s m args below meth c H locs cells slots Q (F0 m pc ls st0) := by
  obtain ⟨hx, hb, hml, hown, hts, hK⟩ := CX
  obtain ⟨hP, hD, hS, hB⟩ := HW
  obtain ⟨y1, y2, y3, y4, y5⟩ := hy
  have cw : CallB R s args own index y bytes maxL ret (Cond.code y bytes maxL ret :: vd_tbl) (vd_R d lo) 0 0 n ∧ (Cond.static y).before args s = true := ⟨callB_of n hts (vd_gd vd_good y4) rfl rfl rfl (hts _ y5) (hts _ hlk) ⟨y1, y2, y3⟩ hR, hts _ hstt⟩
  refine va_calli (va_runS (As := As) (rest := rest) ⟨hx, hb, hml, hown, hts⟩ hM cw ⟨vd_blind, fun U hU hW => ⟨rfl, by rw [hU]; exact hP, va_K.moved hW.alike hK, hD, hB⟩⟩ rfl hn hsz hst (lv_room hW) hdg hcs) hS (fun q _ h => h) (fun q h => h) (fun r u t H1 locs1 ht hvm hw hB1 hz1 hk1 hS1 => ?_)
  obtain ⟨g1, g2, g3, g4⟩ := hB1
  rw [ht] at g1
  exact kk r u H1 locs1 hw ⟨g1, g3, hS1, g4⟩
end VDR
/-- a method's entry: the walk of its body, with what a return needs -/
theorem vd_entI {l : Launch} {y : MethodName} {bytes : ByteArray} {maxL d lo : Nat} {D : va_G} {ad : Nat → Nat} {As : List Value} {K : KT} {post : Int32 → KT → Prop} (hyn : plainName y.cls = true) (hlen : (lg_sl As).length ≤ maxL) {lv : List (Nat × Value)} (hlv : lv_args 0 As = lv)
    (body : ∀ (p : Program) (e : Env) (s : State) (m : MethodId) (args : Array Value) (below : List Frame) (meth : Method) (c : Code) (ls : Array Slot) (Q : State → Prop), vd_Cx p s m c bytes maxL args y.cls D → lv_has ls maxL lv → ∀ (H : Heap) (locs : List Loc), vd_WS D ad s K H locs →
      (∀ (r : Int32) (K' : KT) (H : Heap) (locs : List Loc) (pc : Nat) (ls : Array Slot), decode bytes pc = .ok (.ireturn, 1) → post r K' → vd_WS D ad s K' H locs → W p l e (vd_R d lo) s m args below meth c H locs 0 0 Q (F0 m pc ls [.int r])) →
      W p l e (vd_R d lo) s m args below meth c H locs 0 0 Q (F0 m 0 ls [])) : vd_MI l y bytes maxL (some .int) d lo D ad As K post := by
  refine Met.ofW (cc := bytes) (maxL := maxL) (ret := some .int) hyn rfl ?_
  intro p e s m args below meth c s₁ B hml hv
  obtain ⟨rfl, hP, hK, hD, hB⟩ := hv
  have hts := atoms_spec (ws := Cond.code y bytes maxL (some .int) :: vd_tbl) B.pre
  have CX : vd_Cx p s m c bytes maxL As.toArray y.cls D := ⟨B.exec, B.bytes, hml, findClass_of_methodNamed B.named, fun w hw => hts w (List.mem_cons_of_mem _ hw), hK⟩
  have hl := lv_entry As (n := maxL) hlen
  rw [lg_entry_eq]
  rw [hlv] at hl
  refine body p e s m As.toArray below meth c _ _ CX hl _ _ ⟨hP, hD, va_S.rf, hB⟩ (fun r K' H locs pc ls hdg hp HW => ?_)
  exact W.iret (v := r) CX.1 CX.2.1 B.returns (fun t ht hW => ⟨⟨r, K', rfl, hp, by rw [ht]; exact HW.1, va_K.moved hW.alike hK, HW.2.1, HW.2.2.2⟩, HW.2.2.1.F ht⟩) HW.2.2.1.2.2 hdg B.notSynchronized
theorem vd_entZ {l : Launch} {y : MethodName} {bytes : ByteArray} {maxL d lo : Nat} {D : va_G} {ad : Nat → Nat} {As : List Value} {K : KT} {post : Int32 → KT → Prop} (hyn : plainName y.cls = true) (hlen : (lg_sl As).length ≤ maxL) {lv : List (Nat × Value)} (hlv : lv_args 0 As = lv)
    (body : ∀ (p : Program) (e : Env) (s : State) (m : MethodId) (args : Array Value) (below : List Frame) (meth : Method) (c : Code) (ls : Array Slot) (Q : State → Prop), vd_Cx p s m c bytes maxL args y.cls D → lv_has ls maxL lv → ∀ (H : Heap) (locs : List Loc), vd_WS D ad s K H locs →
      (∀ (b : Bool) (K' : KT) (H : Heap) (locs : List Loc) (pc : Nat) (ls : Array Slot), decode bytes pc = .ok (.ireturn, 1) → post (vd_b b) K' → vd_WS D ad s K' H locs → W p l e (vd_R d lo) s m args below meth c H locs 0 0 Q (F0 m pc ls [.int (vd_b b)])) →
      W p l e (vd_R d lo) s m args below meth c H locs 0 0 Q (F0 m 0 ls [])) : vd_MI l y bytes maxL (some .boolean) d lo D ad As K post := by
  refine Met.ofW (cc := bytes) (maxL := maxL) (ret := some .boolean) hyn rfl ?_
  intro p e s m args below meth c s₁ B hml hv
  obtain ⟨rfl, hP, hK, hD, hB⟩ := hv
  have hts := atoms_spec (ws := Cond.code y bytes maxL (some .boolean) :: vd_tbl) B.pre
  have CX : vd_Cx p s m c bytes maxL As.toArray y.cls D := ⟨B.exec, B.bytes, hml, findClass_of_methodNamed B.named, fun w hw => hts w (List.mem_cons_of_mem _ hw), hK⟩
  have hl := lv_entry As (n := maxL) hlen
  rw [lg_entry_eq]
  rw [hlv] at hl
  refine body p e s m As.toArray below meth c _ _ CX hl _ _ ⟨hP, hD, va_S.rf, hB⟩ (fun r K' H locs pc ls hdg hp HW => ?_)
  exact W.zret (v := vd_b r) (ty := .boolean) CX.1 CX.2.1 B.returns (by cases r <;> decide) (fun t ht hW => ⟨⟨vd_b r, K', rfl, hp, by rw [ht]; exact HW.1, va_K.moved hW.alike hK, HW.2.1, HW.2.2.2⟩, HW.2.2.1.F ht⟩) HW.2.2.1.2.2 hdg B.notSynchronized
theorem vd_entV {l : Launch} {y : MethodName} {bytes : ByteArray} {maxL d lo : Nat} {D : va_G} {ad : Nat → Nat} {As : List Value} {K : KT} {post : KT → Prop} (hyn : plainName y.cls = true) (hlen : (lg_sl As).length ≤ maxL) {lv : List (Nat × Value)} (hlv : lv_args 0 As = lv)
    (body : ∀ (p : Program) (e : Env) (s : State) (m : MethodId) (args : Array Value) (below : List Frame) (meth : Method) (c : Code) (ls : Array Slot) (Q : State → Prop), vd_Cx p s m c bytes maxL args y.cls D → lv_has ls maxL lv → ∀ (H : Heap) (locs : List Loc), vd_WS D ad s K H locs →
      (∀ (K' : KT) (H : Heap) (locs : List Loc) (pc : Nat) (ls : Array Slot), decode bytes pc = .ok (.return_, 1) → post K' → vd_WS D ad s K' H locs → W p l e (vd_R d lo) s m args below meth c H locs 0 0 Q (F0 m pc ls [])) →
      W p l e (vd_R d lo) s m args below meth c H locs 0 0 Q (F0 m 0 ls [])) : vd_MV l y bytes maxL d lo D ad As K post := by
  refine Met.ofW (cc := bytes) (maxL := maxL) (ret := none) hyn rfl ?_
  intro p e s m args below meth c s₁ B hml hv
  obtain ⟨rfl, hP, hK, hD, hB⟩ := hv
  have hts := atoms_spec (ws := Cond.code y bytes maxL none :: vd_tbl) B.pre
  have CX : vd_Cx p s m c bytes maxL As.toArray y.cls D := ⟨B.exec, B.bytes, hml, findClass_of_methodNamed B.named, fun w hw => hts w (List.mem_cons_of_mem _ hw), hK⟩
  have hl := lv_entry As (n := maxL) hlen
  rw [lg_entry_eq]
  rw [hlv] at hl
  refine body p e s m As.toArray below meth c _ _ CX hl _ _ ⟨hP, hD, va_S.rf, hB⟩ (fun K' H locs pc ls hdg hp HW => ?_)
  exact W.vret CX.1 CX.2.1 B.returns (fun t ht hW => ⟨⟨K', rfl, hp, by rw [ht]; exact HW.1, va_K.moved hW.alike hK, HW.2.1, HW.2.2.2⟩, HW.2.2.1.F ht⟩) HW.2.2.1.2.2 hdg B.notSynchronized
section VDF
variable {p : Program} {l : Launch} {e : Env} {R : Room} {s : State} {m : MethodId} {args : Array Value} {below : List Frame} {meth : Method} {c : Code} {H : Heap} {locs : List Loc} {Q : State → Prop}
variable {cells slots : Nat} {cc : ByteArray} {pc nL idx : Nat} {ls : Array Slot} {rest : List Value} {own : String} {D : va_G} {ad : Nat → Nat} {K : KT}
theorem vr_30 (CX : vd_Cx p s m c cc nL args own D) (HW : vd_WS D ad s K H locs) : ∃ cell : Cell, H[ad 30]? = some cell ∧ cell.vm.isStatics = false ∧ s.vm.findClass R_D = some cell.cls := va_recv CX.2.2.2.2.2 HW.1 (ci := 3) (q0 := 0) rfl rfl
theorem vg_30_store (CX : vd_Cx p s m c cc nL args own D) (HW : vd_WS D ad s K H locs) (hlk : Cond.fieldLink own idx "VersionDepot" "store" "LVersionDepot$Store;" ∈ vd_tbl) (hdg : decode cc pc = .ok (.getfield idx, 3)) (kk : W p l e R s m args below meth c H locs cells slots Q (F0 m (pc + 3) ls (.ref (ad 31) :: rest))) : W p l e R s m args below meth c H locs cells slots Q (F0 m pc ls (.ref (ad 30) :: rest)) :=
  va_get (D := D) (ci := 3) (v := .ref (ad 31)) (C := R_D) (T := T_D) (N := 8) CX.1 CX.2.1 CX.2.2.2.2.1 in_D CX.2.2.2.1 CX.2.2.2.2.2 HW.1 0 rfl rfl 0 (by decide) (CX.2.2.2.2.1 _ hlk) (fun _ h9 => h9) rfl hdg kk
theorem vg_30_work (CX : vd_Cx p s m c cc nL args own D) (HW : vd_WS D ad s K H locs) (hlk : Cond.fieldLink own idx "VersionDepot" "work" "[I" ∈ vd_tbl) (hdg : decode cc pc = .ok (.getfield idx, 3)) (kk : W p l e R s m args below meth c H locs cells slots Q (F0 m (pc + 3) ls (.ref (ad 0) :: rest))) : W p l e R s m args below meth c H locs cells slots Q (F0 m pc ls (.ref (ad 30) :: rest)) :=
  va_get (D := D) (ci := 3) (v := .ref (ad 0)) (C := R_D) (T := T_D) (N := 8) CX.1 CX.2.1 CX.2.2.2.2.1 in_D CX.2.2.2.1 CX.2.2.2.2.2 HW.1 0 rfl rfl 1 (by decide) (CX.2.2.2.2.1 _ hlk) (fun _ h9 => h9) rfl hdg kk
theorem vg_30_index (CX : vd_Cx p s m c cc nL args own D) (HW : vd_WS D ad s K H locs) (hlk : Cond.fieldLink own idx "VersionDepot" "index" "[I" ∈ vd_tbl) (hdg : decode cc pc = .ok (.getfield idx, 3)) (kk : W p l e R s m args below meth c H locs cells slots Q (F0 m (pc + 3) ls (.ref (ad 1) :: rest))) : W p l e R s m args below meth c H locs cells slots Q (F0 m pc ls (.ref (ad 30) :: rest)) :=
  va_get (D := D) (ci := 3) (v := .ref (ad 1)) (C := R_D) (T := T_D) (N := 8) CX.1 CX.2.1 CX.2.2.2.2.1 in_D CX.2.2.2.1 CX.2.2.2.2.2 HW.1 0 rfl rfl 2 (by decide) (CX.2.2.2.2.1 _ hlk) (fun _ h9 => h9) rfl hdg kk
theorem vg_30_mixture (CX : vd_Cx p s m c cc nL args own D) (HW : vd_WS D ad s K H locs) (hlk : Cond.fieldLink own idx "VersionDepot" "mixture" "[I" ∈ vd_tbl) (hdg : decode cc pc = .ok (.getfield idx, 3)) (kk : W p l e R s m args below meth c H locs cells slots Q (F0 m (pc + 3) ls (.ref (ad 2) :: rest))) : W p l e R s m args below meth c H locs cells slots Q (F0 m pc ls (.ref (ad 30) :: rest)) :=
  va_get (D := D) (ci := 3) (v := .ref (ad 2)) (C := R_D) (T := T_D) (N := 8) CX.1 CX.2.1 CX.2.2.2.2.1 in_D CX.2.2.2.1 CX.2.2.2.2.2 HW.1 0 rfl rfl 3 (by decide) (CX.2.2.2.2.1 _ hlk) (fun _ h9 => h9) rfl hdg kk
theorem vg_30_tips (CX : vd_Cx p s m c cc nL args own D) (HW : vd_WS D ad s K H locs) (hlk : Cond.fieldLink own idx "VersionDepot" "tips" "[I" ∈ vd_tbl) (hdg : decode cc pc = .ok (.getfield idx, 3)) (kk : W p l e R s m args below meth c H locs cells slots Q (F0 m (pc + 3) ls (.ref (ad 3) :: rest))) : W p l e R s m args below meth c H locs cells slots Q (F0 m pc ls (.ref (ad 30) :: rest)) :=
  va_get (D := D) (ci := 3) (v := .ref (ad 3)) (C := R_D) (T := T_D) (N := 8) CX.1 CX.2.1 CX.2.2.2.2.1 in_D CX.2.2.2.1 CX.2.2.2.2.2 HW.1 0 rfl rfl 4 (by decide) (CX.2.2.2.2.1 _ hlk) (fun _ h9 => h9) rfl hdg kk
theorem vg_30_head (CX : vd_Cx p s m c cc nL args own D) (HW : vd_WS D ad s K H locs) (hlk : Cond.fieldLink own idx "VersionDepot" "head" "I" ∈ vd_tbl) (hdg : decode cc pc = .ok (.getfield idx, 3)) (kk : K 40 0 ≤ vd_ub 40 → W p l e R s m args below meth c H locs cells slots Q (F0 m (pc + 3) ls (.int (nI (K 40 0)) :: rest))) : W p l e R s m args below meth c H locs cells slots Q (F0 m pc ls (.ref (ad 30) :: rest)) :=
  va_get (D := D) (ci := 3) (v := .int (nI (K 40 0))) (C := R_D) (T := T_D) (N := 8) CX.1 CX.2.1 CX.2.2.2.2.1 in_D CX.2.2.2.1 CX.2.2.2.2.2 HW.1 0 rfl rfl 5 (by decide) (CX.2.2.2.2.1 _ hlk) (fun _ h9 => h9) rfl hdg (kk (HW.2.2.2 40 0 (by decide)))
theorem vt_30_head (CX : vd_Cx p s m c cc nL args own D) (HW : vd_WS D ad s K H locs) {x : Nat} (hu : x ≤ vd_ub 40) (hlk : Cond.fieldLink own idx "VersionDepot" "head" "I" ∈ vd_tbl) (hdg : decode cc pc = .ok (.putfield idx, 3)) (kk : ∀ (K' : KT) (H' : Heap) (locs' : List Loc), K' = vd_st K 40 0 x → vd_WS D ad s K' H' locs' → W p l e R s m args below meth c H' locs' cells slots Q (F0 m (pc + 3) ls rest)) : W p l e R s m args below meth c H locs cells slots Q (F0 m pc ls (.int (nI x) :: .ref (ad 30) :: rest)) :=
  va_put (D := D) (ci := 3) (v := .int (nI x)) (ty := .int) (C := R_D) (T := T_D) (N := 8) CX.1 CX.2.1 CX.2.2.2.2.1 in_D ty_D tyok_D nm_D CX.2.2.2.1 CX.2.2.2.2.2 HW.1 HW.2.1 HW.2.2.1 0 rfl rfl 5 (by decide) (CX.2.2.2.2.1 _ hlk) (fun _ h9 => h9) rfl (by decide +kernel) rfl rfl (Nat.le_of_ble_eq_true rfl) hdg (fun H1 locs1 h1 h2 h3 => kk _ H1 locs1 rfl ⟨h1, h2, h3, HW.2.2.2.st hu⟩)
theorem vg_30_merging (CX : vd_Cx p s m c cc nL args own D) (HW : vd_WS D ad s K H locs) (hlk : Cond.fieldLink own idx "VersionDepot" "merging" "I" ∈ vd_tbl) (hdg : decode cc pc = .ok (.getfield idx, 3)) (kk : K 41 0 ≤ vd_ub 41 → W p l e R s m args below meth c H locs cells slots Q (F0 m (pc + 3) ls (.int (nI (K 41 0)) :: rest))) : W p l e R s m args below meth c H locs cells slots Q (F0 m pc ls (.ref (ad 30) :: rest)) :=
  va_get (D := D) (ci := 3) (v := .int (nI (K 41 0))) (C := R_D) (T := T_D) (N := 8) CX.1 CX.2.1 CX.2.2.2.2.1 in_D CX.2.2.2.1 CX.2.2.2.2.2 HW.1 0 rfl rfl 6 (by decide) (CX.2.2.2.2.1 _ hlk) (fun _ h9 => h9) rfl hdg (kk (HW.2.2.2 41 0 (by decide)))
theorem vt_30_merging (CX : vd_Cx p s m c cc nL args own D) (HW : vd_WS D ad s K H locs) {x : Nat} (hu : x ≤ vd_ub 41) (hlk : Cond.fieldLink own idx "VersionDepot" "merging" "I" ∈ vd_tbl) (hdg : decode cc pc = .ok (.putfield idx, 3)) (kk : ∀ (K' : KT) (H' : Heap) (locs' : List Loc), K' = vd_st K 41 0 x → vd_WS D ad s K' H' locs' → W p l e R s m args below meth c H' locs' cells slots Q (F0 m (pc + 3) ls rest)) : W p l e R s m args below meth c H locs cells slots Q (F0 m pc ls (.int (nI x) :: .ref (ad 30) :: rest)) :=
  va_put (D := D) (ci := 3) (v := .int (nI x)) (ty := .int) (C := R_D) (T := T_D) (N := 8) CX.1 CX.2.1 CX.2.2.2.2.1 in_D ty_D tyok_D nm_D CX.2.2.2.1 CX.2.2.2.2.2 HW.1 HW.2.1 HW.2.2.1 0 rfl rfl 6 (by decide) (CX.2.2.2.2.1 _ hlk) (fun _ h9 => h9) rfl (by decide +kernel) rfl rfl (Nat.le_of_ble_eq_true rfl) hdg (fun H1 locs1 h1 h2 h3 => kk _ H1 locs1 rfl ⟨h1, h2, h3, HW.2.2.2.st hu⟩)
theorem vg_30_clashes (CX : vd_Cx p s m c cc nL args own D) (HW : vd_WS D ad s K H locs) (hlk : Cond.fieldLink own idx "VersionDepot" "clashes" "I" ∈ vd_tbl) (hdg : decode cc pc = .ok (.getfield idx, 3)) (kk : K 42 0 ≤ vd_ub 42 → W p l e R s m args below meth c H locs cells slots Q (F0 m (pc + 3) ls (.int (nI (K 42 0)) :: rest))) : W p l e R s m args below meth c H locs cells slots Q (F0 m pc ls (.ref (ad 30) :: rest)) :=
  va_get (D := D) (ci := 3) (v := .int (nI (K 42 0))) (C := R_D) (T := T_D) (N := 8) CX.1 CX.2.1 CX.2.2.2.2.1 in_D CX.2.2.2.1 CX.2.2.2.2.2 HW.1 0 rfl rfl 7 (by decide) (CX.2.2.2.2.1 _ hlk) (fun _ h9 => h9) rfl hdg (kk (HW.2.2.2 42 0 (by decide)))
theorem vt_30_clashes (CX : vd_Cx p s m c cc nL args own D) (HW : vd_WS D ad s K H locs) {x : Nat} (hu : x ≤ vd_ub 42) (hlk : Cond.fieldLink own idx "VersionDepot" "clashes" "I" ∈ vd_tbl) (hdg : decode cc pc = .ok (.putfield idx, 3)) (kk : ∀ (K' : KT) (H' : Heap) (locs' : List Loc), K' = vd_st K 42 0 x → vd_WS D ad s K' H' locs' → W p l e R s m args below meth c H' locs' cells slots Q (F0 m (pc + 3) ls rest)) : W p l e R s m args below meth c H locs cells slots Q (F0 m pc ls (.int (nI x) :: .ref (ad 30) :: rest)) :=
  va_put (D := D) (ci := 3) (v := .int (nI x)) (ty := .int) (C := R_D) (T := T_D) (N := 8) CX.1 CX.2.1 CX.2.2.2.2.1 in_D ty_D tyok_D nm_D CX.2.2.2.1 CX.2.2.2.2.2 HW.1 HW.2.1 HW.2.2.1 0 rfl rfl 7 (by decide) (CX.2.2.2.2.1 _ hlk) (fun _ h9 => h9) rfl (by decide +kernel) rfl rfl (Nat.le_of_ble_eq_true rfl) hdg (fun H1 locs1 h1 h2 h3 => kk _ H1 locs1 rfl ⟨h1, h2, h3, HW.2.2.2.st hu⟩)
theorem vr_31 (CX : vd_Cx p s m c cc nL args own D) (HW : vd_WS D ad s K H locs) : ∃ cell : Cell, H[ad 31]? = some cell ∧ cell.vm.isStatics = false ∧ s.vm.findClass R_S = some cell.cls := va_recv CX.2.2.2.2.2 HW.1 (ci := 2) (q0 := 1) rfl rfl
theorem vg_31_blobs (CX : vd_Cx p s m c cc nL args own D) (HW : vd_WS D ad s K H locs) (hlk : Cond.fieldLink own idx "VersionDepot$Store" "blobs" "LVersionDepot$Blobs;" ∈ vd_tbl) (hdg : decode cc pc = .ok (.getfield idx, 3)) (kk : W p l e R s m args below meth c H locs cells slots Q (F0 m (pc + 3) ls (.ref (ad 32) :: rest))) : W p l e R s m args below meth c H locs cells slots Q (F0 m pc ls (.ref (ad 31) :: rest)) :=
  va_get (D := D) (ci := 2) (v := .ref (ad 32)) (C := R_S) (T := T_S) (N := 10) CX.1 CX.2.1 CX.2.2.2.2.1 in_S CX.2.2.2.1 CX.2.2.2.2.2 HW.1 1 rfl rfl 0 (by decide) (CX.2.2.2.2.1 _ hlk) (fun _ h9 => h9) rfl hdg kk
theorem vg_31_folders (CX : vd_Cx p s m c cc nL args own D) (HW : vd_WS D ad s K H locs) (hlk : Cond.fieldLink own idx "VersionDepot$Store" "folders" "LVersionDepot$Rows;" ∈ vd_tbl) (hdg : decode cc pc = .ok (.getfield idx, 3)) (kk : W p l e R s m args below meth c H locs cells slots Q (F0 m (pc + 3) ls (.ref (ad 33) :: rest))) : W p l e R s m args below meth c H locs cells slots Q (F0 m pc ls (.ref (ad 31) :: rest)) :=
  va_get (D := D) (ci := 2) (v := .ref (ad 33)) (C := R_S) (T := T_S) (N := 10) CX.1 CX.2.1 CX.2.2.2.2.1 in_S CX.2.2.2.1 CX.2.2.2.2.2 HW.1 1 rfl rfl 1 (by decide) (CX.2.2.2.2.1 _ hlk) (fun _ h9 => h9) rfl hdg kk
theorem vg_31_roots (CX : vd_Cx p s m c cc nL args own D) (HW : vd_WS D ad s K H locs) (hlk : Cond.fieldLink own idx "VersionDepot$Store" "roots" "LVersionDepot$Rows;" ∈ vd_tbl) (hdg : decode cc pc = .ok (.getfield idx, 3)) (kk : W p l e R s m args below meth c H locs cells slots Q (F0 m (pc + 3) ls (.ref (ad 34) :: rest))) : W p l e R s m args below meth c H locs cells slots Q (F0 m pc ls (.ref (ad 31) :: rest)) :=
  va_get (D := D) (ci := 2) (v := .ref (ad 34)) (C := R_S) (T := T_S) (N := 10) CX.1 CX.2.1 CX.2.2.2.2.1 in_S CX.2.2.2.1 CX.2.2.2.2.2 HW.1 1 rfl rfl 2 (by decide) (CX.2.2.2.2.1 _ hlk) (fun _ h9 => h9) rfl hdg kk
theorem vg_31_rootOf (CX : vd_Cx p s m c cc nL args own D) (HW : vd_WS D ad s K H locs) (hlk : Cond.fieldLink own idx "VersionDepot$Store" "rootOf" "[I" ∈ vd_tbl) (hdg : decode cc pc = .ok (.getfield idx, 3)) (kk : W p l e R s m args below meth c H locs cells slots Q (F0 m (pc + 3) ls (.ref (ad 4) :: rest))) : W p l e R s m args below meth c H locs cells slots Q (F0 m pc ls (.ref (ad 31) :: rest)) :=
  va_get (D := D) (ci := 2) (v := .ref (ad 4)) (C := R_S) (T := T_S) (N := 10) CX.1 CX.2.1 CX.2.2.2.2.1 in_S CX.2.2.2.1 CX.2.2.2.2.2 HW.1 1 rfl rfl 3 (by decide) (CX.2.2.2.2.1 _ hlk) (fun _ h9 => h9) rfl hdg kk
theorem vg_31_firstParents (CX : vd_Cx p s m c cc nL args own D) (HW : vd_WS D ad s K H locs) (hlk : Cond.fieldLink own idx "VersionDepot$Store" "firstParents" "[I" ∈ vd_tbl) (hdg : decode cc pc = .ok (.getfield idx, 3)) (kk : W p l e R s m args below meth c H locs cells slots Q (F0 m (pc + 3) ls (.ref (ad 5) :: rest))) : W p l e R s m args below meth c H locs cells slots Q (F0 m pc ls (.ref (ad 31) :: rest)) :=
  va_get (D := D) (ci := 2) (v := .ref (ad 5)) (C := R_S) (T := T_S) (N := 10) CX.1 CX.2.1 CX.2.2.2.2.1 in_S CX.2.2.2.1 CX.2.2.2.2.2 HW.1 1 rfl rfl 4 (by decide) (CX.2.2.2.2.1 _ hlk) (fun _ h9 => h9) rfl hdg kk
theorem vg_31_secondParents (CX : vd_Cx p s m c cc nL args own D) (HW : vd_WS D ad s K H locs) (hlk : Cond.fieldLink own idx "VersionDepot$Store" "secondParents" "[I" ∈ vd_tbl) (hdg : decode cc pc = .ok (.getfield idx, 3)) (kk : W p l e R s m args below meth c H locs cells slots Q (F0 m (pc + 3) ls (.ref (ad 6) :: rest))) : W p l e R s m args below meth c H locs cells slots Q (F0 m pc ls (.ref (ad 31) :: rest)) :=
  va_get (D := D) (ci := 2) (v := .ref (ad 6)) (C := R_S) (T := T_S) (N := 10) CX.1 CX.2.1 CX.2.2.2.2.1 in_S CX.2.2.2.1 CX.2.2.2.2.2 HW.1 1 rfl rfl 5 (by decide) (CX.2.2.2.2.1 _ hlk) (fun _ h9 => h9) rfl hdg kk
theorem vg_31_ancestors (CX : vd_Cx p s m c cc nL args own D) (HW : vd_WS D ad s K H locs) (hlk : Cond.fieldLink own idx "VersionDepot$Store" "ancestors" "[I" ∈ vd_tbl) (hdg : decode cc pc = .ok (.getfield idx, 3)) (kk : W p l e R s m args below meth c H locs cells slots Q (F0 m (pc + 3) ls (.ref (ad 7) :: rest))) : W p l e R s m args below meth c H locs cells slots Q (F0 m pc ls (.ref (ad 31) :: rest)) :=
  va_get (D := D) (ci := 2) (v := .ref (ad 7)) (C := R_S) (T := T_S) (N := 10) CX.1 CX.2.1 CX.2.2.2.2.1 in_S CX.2.2.2.1 CX.2.2.2.2.2 HW.1 1 rfl rfl 6 (by decide) (CX.2.2.2.2.1 _ hlk) (fun _ h9 => h9) rfl hdg kk
theorem vg_31_folderRow (CX : vd_Cx p s m c cc nL args own D) (HW : vd_WS D ad s K H locs) (hlk : Cond.fieldLink own idx "VersionDepot$Store" "folderRow" "[I" ∈ vd_tbl) (hdg : decode cc pc = .ok (.getfield idx, 3)) (kk : W p l e R s m args below meth c H locs cells slots Q (F0 m (pc + 3) ls (.ref (ad 8) :: rest))) : W p l e R s m args below meth c H locs cells slots Q (F0 m pc ls (.ref (ad 31) :: rest)) :=
  va_get (D := D) (ci := 2) (v := .ref (ad 8)) (C := R_S) (T := T_S) (N := 10) CX.1 CX.2.1 CX.2.2.2.2.1 in_S CX.2.2.2.1 CX.2.2.2.2.2 HW.1 1 rfl rfl 7 (by decide) (CX.2.2.2.2.1 _ hlk) (fun _ h9 => h9) rfl hdg kk
theorem vg_31_made (CX : vd_Cx p s m c cc nL args own D) (HW : vd_WS D ad s K H locs) (hlk : Cond.fieldLink own idx "VersionDepot$Store" "made" "I" ∈ vd_tbl) (hdg : decode cc pc = .ok (.getfield idx, 3)) (kk : K 43 0 ≤ vd_ub 43 → W p l e R s m args below meth c H locs cells slots Q (F0 m (pc + 3) ls (.int (nI (K 43 0)) :: rest))) : W p l e R s m args below meth c H locs cells slots Q (F0 m pc ls (.ref (ad 31) :: rest)) :=
  va_get (D := D) (ci := 2) (v := .int (nI (K 43 0))) (C := R_S) (T := T_S) (N := 10) CX.1 CX.2.1 CX.2.2.2.2.1 in_S CX.2.2.2.1 CX.2.2.2.2.2 HW.1 1 rfl rfl 8 (by decide) (CX.2.2.2.2.1 _ hlk) (fun _ h9 => h9) rfl hdg (kk (HW.2.2.2 43 0 (by decide)))
theorem vt_31_made (CX : vd_Cx p s m c cc nL args own D) (HW : vd_WS D ad s K H locs) {x : Nat} (hu : x ≤ vd_ub 43) (hlk : Cond.fieldLink own idx "VersionDepot$Store" "made" "I" ∈ vd_tbl) (hdg : decode cc pc = .ok (.putfield idx, 3)) (kk : ∀ (K' : KT) (H' : Heap) (locs' : List Loc), K' = vd_st K 43 0 x → vd_WS D ad s K' H' locs' → W p l e R s m args below meth c H' locs' cells slots Q (F0 m (pc + 3) ls rest)) : W p l e R s m args below meth c H locs cells slots Q (F0 m pc ls (.int (nI x) :: .ref (ad 31) :: rest)) :=
  va_put (D := D) (ci := 2) (v := .int (nI x)) (ty := .int) (C := R_S) (T := T_S) (N := 10) CX.1 CX.2.1 CX.2.2.2.2.1 in_S ty_S tyok_S nm_S CX.2.2.2.1 CX.2.2.2.2.2 HW.1 HW.2.1 HW.2.2.1 1 rfl rfl 8 (by decide) (CX.2.2.2.2.1 _ hlk) (fun _ h9 => h9) rfl (by decide +kernel) rfl rfl (Nat.le_of_ble_eq_true rfl) hdg (fun H1 locs1 h1 h2 h3 => kk _ H1 locs1 rfl ⟨h1, h2, h3, HW.2.2.2.st hu⟩)
theorem vg_31_stored (CX : vd_Cx p s m c cc nL args own D) (HW : vd_WS D ad s K H locs) (hlk : Cond.fieldLink own idx "VersionDepot$Store" "stored" "I" ∈ vd_tbl) (hdg : decode cc pc = .ok (.getfield idx, 3)) (kk : K 44 0 ≤ vd_ub 44 → W p l e R s m args below meth c H locs cells slots Q (F0 m (pc + 3) ls (.int (nI (K 44 0)) :: rest))) : W p l e R s m args below meth c H locs cells slots Q (F0 m pc ls (.ref (ad 31) :: rest)) :=
  va_get (D := D) (ci := 2) (v := .int (nI (K 44 0))) (C := R_S) (T := T_S) (N := 10) CX.1 CX.2.1 CX.2.2.2.2.1 in_S CX.2.2.2.1 CX.2.2.2.2.2 HW.1 1 rfl rfl 9 (by decide) (CX.2.2.2.2.1 _ hlk) (fun _ h9 => h9) rfl hdg (kk (HW.2.2.2 44 0 (by decide)))
theorem vt_31_stored (CX : vd_Cx p s m c cc nL args own D) (HW : vd_WS D ad s K H locs) {x : Nat} (hu : x ≤ vd_ub 44) (hlk : Cond.fieldLink own idx "VersionDepot$Store" "stored" "I" ∈ vd_tbl) (hdg : decode cc pc = .ok (.putfield idx, 3)) (kk : ∀ (K' : KT) (H' : Heap) (locs' : List Loc), K' = vd_st K 44 0 x → vd_WS D ad s K' H' locs' → W p l e R s m args below meth c H' locs' cells slots Q (F0 m (pc + 3) ls rest)) : W p l e R s m args below meth c H locs cells slots Q (F0 m pc ls (.int (nI x) :: .ref (ad 31) :: rest)) :=
  va_put (D := D) (ci := 2) (v := .int (nI x)) (ty := .int) (C := R_S) (T := T_S) (N := 10) CX.1 CX.2.1 CX.2.2.2.2.1 in_S ty_S tyok_S nm_S CX.2.2.2.1 CX.2.2.2.2.2 HW.1 HW.2.1 HW.2.2.1 1 rfl rfl 9 (by decide) (CX.2.2.2.2.1 _ hlk) (fun _ h9 => h9) rfl (by decide +kernel) rfl rfl (Nat.le_of_ble_eq_true rfl) hdg (fun H1 locs1 h1 h2 h3 => kk _ H1 locs1 rfl ⟨h1, h2, h3, HW.2.2.2.st hu⟩)
theorem vr_32 (CX : vd_Cx p s m c cc nL args own D) (HW : vd_WS D ad s K H locs) : ∃ cell : Cell, H[ad 32]? = some cell ∧ cell.vm.isStatics = false ∧ s.vm.findClass R_B = some cell.cls := va_recv CX.2.2.2.2.2 HW.1 (ci := 0) (q0 := 2) rfl rfl
theorem vg_32_bits (CX : vd_Cx p s m c cc nL args own D) (HW : vd_WS D ad s K H locs) (hlk : Cond.fieldLink own idx "VersionDepot$Blobs" "bits" "[J" ∈ vd_tbl) (hdg : decode cc pc = .ok (.getfield idx, 3)) (kk : W p l e R s m args below meth c H locs cells slots Q (F0 m (pc + 3) ls (.ref (ad 9) :: rest))) : W p l e R s m args below meth c H locs cells slots Q (F0 m pc ls (.ref (ad 32) :: rest)) :=
  va_get (D := D) (ci := 0) (v := .ref (ad 9)) (C := R_B) (T := T_B) (N := 1) CX.1 CX.2.1 CX.2.2.2.2.1 in_B CX.2.2.2.1 CX.2.2.2.2.2 HW.1 2 rfl rfl 0 (by decide) (CX.2.2.2.2.1 _ hlk) (fun _ h9 => h9) rfl hdg kk
theorem vr_33 (CX : vd_Cx p s m c cc nL args own D) (HW : vd_WS D ad s K H locs) : ∃ cell : Cell, H[ad 33]? = some cell ∧ cell.vm.isStatics = false ∧ s.vm.findClass R_W = some cell.cls := va_recv CX.2.2.2.2.2 HW.1 (ci := 1) (q0 := 3) rfl rfl
theorem vg_33_numbers (CX : vd_Cx p s m c cc nL args own D) (HW : vd_WS D ad s K H locs) (hlk : Cond.fieldLink own idx "VersionDepot$Rows" "numbers" "[I" ∈ vd_tbl) (hdg : decode cc pc = .ok (.getfield idx, 3)) (kk : W p l e R s m args below meth c H locs cells slots Q (F0 m (pc + 3) ls (.ref (ad 10) :: rest))) : W p l e R s m args below meth c H locs cells slots Q (F0 m pc ls (.ref (ad 33) :: rest)) :=
  va_get (D := D) (ci := 1) (v := .ref (ad 10)) (C := R_W) (T := T_W) (N := 3) CX.1 CX.2.1 CX.2.2.2.2.1 in_W CX.2.2.2.1 CX.2.2.2.2.2 HW.1 3 rfl rfl 0 (by decide) (CX.2.2.2.2.1 _ hlk) (fun _ h9 => h9) rfl hdg kk
theorem vg_33_stored (CX : vd_Cx p s m c cc nL args own D) (HW : vd_WS D ad s K H locs) (hlk : Cond.fieldLink own idx "VersionDepot$Rows" "stored" "[Z" ∈ vd_tbl) (hdg : decode cc pc = .ok (.getfield idx, 3)) (kk : W p l e R s m args below meth c H locs cells slots Q (F0 m (pc + 3) ls (.ref (ad 11) :: rest))) : W p l e R s m args below meth c H locs cells slots Q (F0 m pc ls (.ref (ad 33) :: rest)) :=
  va_get (D := D) (ci := 1) (v := .ref (ad 11)) (C := R_W) (T := T_W) (N := 3) CX.1 CX.2.1 CX.2.2.2.2.1 in_W CX.2.2.2.1 CX.2.2.2.2.2 HW.1 3 rfl rfl 1 (by decide) (CX.2.2.2.2.1 _ hlk) (fun _ h9 => h9) rfl hdg kk
theorem vg_33_last (CX : vd_Cx p s m c cc nL args own D) (HW : vd_WS D ad s K H locs) (hlk : Cond.fieldLink own idx "VersionDepot$Rows" "last" "I" ∈ vd_tbl) (hdg : decode cc pc = .ok (.getfield idx, 3)) (kk : K 45 0 ≤ vd_ub 45 → W p l e R s m args below meth c H locs cells slots Q (F0 m (pc + 3) ls (.int (nI (K 45 0)) :: rest))) : W p l e R s m args below meth c H locs cells slots Q (F0 m pc ls (.ref (ad 33) :: rest)) :=
  va_get (D := D) (ci := 1) (v := .int (nI (K 45 0))) (C := R_W) (T := T_W) (N := 3) CX.1 CX.2.1 CX.2.2.2.2.1 in_W CX.2.2.2.1 CX.2.2.2.2.2 HW.1 3 rfl rfl 2 (by decide) (CX.2.2.2.2.1 _ hlk) (fun _ h9 => h9) rfl hdg (kk (HW.2.2.2 45 0 (by decide)))
theorem vt_33_last (CX : vd_Cx p s m c cc nL args own D) (HW : vd_WS D ad s K H locs) {x : Nat} (hu : x ≤ vd_ub 45) (hlk : Cond.fieldLink own idx "VersionDepot$Rows" "last" "I" ∈ vd_tbl) (hdg : decode cc pc = .ok (.putfield idx, 3)) (kk : ∀ (K' : KT) (H' : Heap) (locs' : List Loc), K' = vd_st K 45 0 x → vd_WS D ad s K' H' locs' → W p l e R s m args below meth c H' locs' cells slots Q (F0 m (pc + 3) ls rest)) : W p l e R s m args below meth c H locs cells slots Q (F0 m pc ls (.int (nI x) :: .ref (ad 33) :: rest)) :=
  va_put (D := D) (ci := 1) (v := .int (nI x)) (ty := .int) (C := R_W) (T := T_W) (N := 3) CX.1 CX.2.1 CX.2.2.2.2.1 in_W ty_W tyok_W nm_W CX.2.2.2.1 CX.2.2.2.2.2 HW.1 HW.2.1 HW.2.2.1 3 rfl rfl 2 (by decide) (CX.2.2.2.2.1 _ hlk) (fun _ h9 => h9) rfl (by decide +kernel) rfl rfl (Nat.le_of_ble_eq_true rfl) hdg (fun H1 locs1 h1 h2 h3 => kk _ H1 locs1 rfl ⟨h1, h2, h3, HW.2.2.2.st hu⟩)
theorem vr_34 (CX : vd_Cx p s m c cc nL args own D) (HW : vd_WS D ad s K H locs) : ∃ cell : Cell, H[ad 34]? = some cell ∧ cell.vm.isStatics = false ∧ s.vm.findClass R_W = some cell.cls := va_recv CX.2.2.2.2.2 HW.1 (ci := 1) (q0 := 4) rfl rfl
theorem vg_34_numbers (CX : vd_Cx p s m c cc nL args own D) (HW : vd_WS D ad s K H locs) (hlk : Cond.fieldLink own idx "VersionDepot$Rows" "numbers" "[I" ∈ vd_tbl) (hdg : decode cc pc = .ok (.getfield idx, 3)) (kk : W p l e R s m args below meth c H locs cells slots Q (F0 m (pc + 3) ls (.ref (ad 12) :: rest))) : W p l e R s m args below meth c H locs cells slots Q (F0 m pc ls (.ref (ad 34) :: rest)) :=
  va_get (D := D) (ci := 1) (v := .ref (ad 12)) (C := R_W) (T := T_W) (N := 3) CX.1 CX.2.1 CX.2.2.2.2.1 in_W CX.2.2.2.1 CX.2.2.2.2.2 HW.1 4 rfl rfl 0 (by decide) (CX.2.2.2.2.1 _ hlk) (fun _ h9 => h9) rfl hdg kk
theorem vg_34_stored (CX : vd_Cx p s m c cc nL args own D) (HW : vd_WS D ad s K H locs) (hlk : Cond.fieldLink own idx "VersionDepot$Rows" "stored" "[Z" ∈ vd_tbl) (hdg : decode cc pc = .ok (.getfield idx, 3)) (kk : W p l e R s m args below meth c H locs cells slots Q (F0 m (pc + 3) ls (.ref (ad 13) :: rest))) : W p l e R s m args below meth c H locs cells slots Q (F0 m pc ls (.ref (ad 34) :: rest)) :=
  va_get (D := D) (ci := 1) (v := .ref (ad 13)) (C := R_W) (T := T_W) (N := 3) CX.1 CX.2.1 CX.2.2.2.2.1 in_W CX.2.2.2.1 CX.2.2.2.2.2 HW.1 4 rfl rfl 1 (by decide) (CX.2.2.2.2.1 _ hlk) (fun _ h9 => h9) rfl hdg kk
theorem vg_34_last (CX : vd_Cx p s m c cc nL args own D) (HW : vd_WS D ad s K H locs) (hlk : Cond.fieldLink own idx "VersionDepot$Rows" "last" "I" ∈ vd_tbl) (hdg : decode cc pc = .ok (.getfield idx, 3)) (kk : K 46 0 ≤ vd_ub 46 → W p l e R s m args below meth c H locs cells slots Q (F0 m (pc + 3) ls (.int (nI (K 46 0)) :: rest))) : W p l e R s m args below meth c H locs cells slots Q (F0 m pc ls (.ref (ad 34) :: rest)) :=
  va_get (D := D) (ci := 1) (v := .int (nI (K 46 0))) (C := R_W) (T := T_W) (N := 3) CX.1 CX.2.1 CX.2.2.2.2.1 in_W CX.2.2.2.1 CX.2.2.2.2.2 HW.1 4 rfl rfl 2 (by decide) (CX.2.2.2.2.1 _ hlk) (fun _ h9 => h9) rfl hdg (kk (HW.2.2.2 46 0 (by decide)))
theorem vt_34_last (CX : vd_Cx p s m c cc nL args own D) (HW : vd_WS D ad s K H locs) {x : Nat} (hu : x ≤ vd_ub 46) (hlk : Cond.fieldLink own idx "VersionDepot$Rows" "last" "I" ∈ vd_tbl) (hdg : decode cc pc = .ok (.putfield idx, 3)) (kk : ∀ (K' : KT) (H' : Heap) (locs' : List Loc), K' = vd_st K 46 0 x → vd_WS D ad s K' H' locs' → W p l e R s m args below meth c H' locs' cells slots Q (F0 m (pc + 3) ls rest)) : W p l e R s m args below meth c H locs cells slots Q (F0 m pc ls (.int (nI x) :: .ref (ad 34) :: rest)) :=
  va_put (D := D) (ci := 1) (v := .int (nI x)) (ty := .int) (C := R_W) (T := T_W) (N := 3) CX.1 CX.2.1 CX.2.2.2.2.1 in_W ty_W tyok_W nm_W CX.2.2.2.1 CX.2.2.2.2.2 HW.1 HW.2.1 HW.2.2.1 4 rfl rfl 2 (by decide) (CX.2.2.2.2.1 _ hlk) (fun _ h9 => h9) rfl (by decide +kernel) rfl rfl (Nat.le_of_ble_eq_true rfl) hdg (fun H1 locs1 h1 h2 h3 => kk _ H1 locs1 rfl ⟨h1, h2, h3, HW.2.2.2.st hu⟩)
theorem vr_35 (CX : vd_Cx p s m c cc nL args own D) (HW : vd_WS D ad s K H locs) : ∃ cell : Cell, H[ad 35]? = some cell ∧ cell.vm.isStatics = false ∧ s.vm.findClass R_M = some cell.cls := va_recv CX.2.2.2.2.2 HW.1 (ci := 4) (q0 := 5) rfl rfl
theorem vg_35_content (CX : vd_Cx p s m c cc nL args own D) (HW : vd_WS D ad s K H locs) (hlk : Cond.fieldLink own idx "VersionDepotModel" "content" "[I" ∈ vd_tbl) (hdg : decode cc pc = .ok (.getfield idx, 3)) (kk : W p l e R s m args below meth c H locs cells slots Q (F0 m (pc + 3) ls (.ref (ad 14) :: rest))) : W p l e R s m args below meth c H locs cells slots Q (F0 m pc ls (.ref (ad 35) :: rest)) :=
  va_get (D := D) (ci := 4) (v := .ref (ad 14)) (C := R_M) (T := T_M) (N := 12) CX.1 CX.2.1 CX.2.2.2.2.1 in_M CX.2.2.2.1 CX.2.2.2.2.2 HW.1 5 rfl rfl 0 (by decide) (CX.2.2.2.2.1 _ hlk) (fun _ h9 => h9) rfl hdg kk
theorem vg_35_stored (CX : vd_Cx p s m c cc nL args own D) (HW : vd_WS D ad s K H locs) (hlk : Cond.fieldLink own idx "VersionDepotModel" "stored" "[Z" ∈ vd_tbl) (hdg : decode cc pc = .ok (.getfield idx, 3)) (kk : W p l e R s m args below meth c H locs cells slots Q (F0 m (pc + 3) ls (.ref (ad 15) :: rest))) : W p l e R s m args below meth c H locs cells slots Q (F0 m pc ls (.ref (ad 35) :: rest)) :=
  va_get (D := D) (ci := 4) (v := .ref (ad 15)) (C := R_M) (T := T_M) (N := 12) CX.1 CX.2.1 CX.2.2.2.2.1 in_M CX.2.2.2.1 CX.2.2.2.2.2 HW.1 5 rfl rfl 1 (by decide) (CX.2.2.2.2.1 _ hlk) (fun _ h9 => h9) rfl hdg kk
theorem vg_35_first (CX : vd_Cx p s m c cc nL args own D) (HW : vd_WS D ad s K H locs) (hlk : Cond.fieldLink own idx "VersionDepotModel" "first" "[I" ∈ vd_tbl) (hdg : decode cc pc = .ok (.getfield idx, 3)) (kk : W p l e R s m args below meth c H locs cells slots Q (F0 m (pc + 3) ls (.ref (ad 16) :: rest))) : W p l e R s m args below meth c H locs cells slots Q (F0 m pc ls (.ref (ad 35) :: rest)) :=
  va_get (D := D) (ci := 4) (v := .ref (ad 16)) (C := R_M) (T := T_M) (N := 12) CX.1 CX.2.1 CX.2.2.2.2.1 in_M CX.2.2.2.1 CX.2.2.2.2.2 HW.1 5 rfl rfl 2 (by decide) (CX.2.2.2.2.1 _ hlk) (fun _ h9 => h9) rfl hdg kk
theorem vg_35_second (CX : vd_Cx p s m c cc nL args own D) (HW : vd_WS D ad s K H locs) (hlk : Cond.fieldLink own idx "VersionDepotModel" "second" "[I" ∈ vd_tbl) (hdg : decode cc pc = .ok (.getfield idx, 3)) (kk : W p l e R s m args below meth c H locs cells slots Q (F0 m (pc + 3) ls (.ref (ad 17) :: rest))) : W p l e R s m args below meth c H locs cells slots Q (F0 m pc ls (.ref (ad 35) :: rest)) :=
  va_get (D := D) (ci := 4) (v := .ref (ad 17)) (C := R_M) (T := T_M) (N := 12) CX.1 CX.2.1 CX.2.2.2.2.1 in_M CX.2.2.2.1 CX.2.2.2.2.2 HW.1 5 rfl rfl 3 (by decide) (CX.2.2.2.2.1 _ hlk) (fun _ h9 => h9) rfl hdg kk
theorem vg_35_made (CX : vd_Cx p s m c cc nL args own D) (HW : vd_WS D ad s K H locs) (hlk : Cond.fieldLink own idx "VersionDepotModel" "made" "I" ∈ vd_tbl) (hdg : decode cc pc = .ok (.getfield idx, 3)) (kk : K 47 0 ≤ vd_ub 47 → W p l e R s m args below meth c H locs cells slots Q (F0 m (pc + 3) ls (.int (nI (K 47 0)) :: rest))) : W p l e R s m args below meth c H locs cells slots Q (F0 m pc ls (.ref (ad 35) :: rest)) :=
  va_get (D := D) (ci := 4) (v := .int (nI (K 47 0))) (C := R_M) (T := T_M) (N := 12) CX.1 CX.2.1 CX.2.2.2.2.1 in_M CX.2.2.2.1 CX.2.2.2.2.2 HW.1 5 rfl rfl 4 (by decide) (CX.2.2.2.2.1 _ hlk) (fun _ h9 => h9) rfl hdg (kk (HW.2.2.2 47 0 (by decide)))
theorem vt_35_made (CX : vd_Cx p s m c cc nL args own D) (HW : vd_WS D ad s K H locs) {x : Nat} (hu : x ≤ vd_ub 47) (hlk : Cond.fieldLink own idx "VersionDepotModel" "made" "I" ∈ vd_tbl) (hdg : decode cc pc = .ok (.putfield idx, 3)) (kk : ∀ (K' : KT) (H' : Heap) (locs' : List Loc), K' = vd_st K 47 0 x → vd_WS D ad s K' H' locs' → W p l e R s m args below meth c H' locs' cells slots Q (F0 m (pc + 3) ls rest)) : W p l e R s m args below meth c H locs cells slots Q (F0 m pc ls (.int (nI x) :: .ref (ad 35) :: rest)) :=
  va_put (D := D) (ci := 4) (v := .int (nI x)) (ty := .int) (C := R_M) (T := T_M) (N := 12) CX.1 CX.2.1 CX.2.2.2.2.1 in_M ty_M tyok_M nm_M CX.2.2.2.1 CX.2.2.2.2.2 HW.1 HW.2.1 HW.2.2.1 5 rfl rfl 4 (by decide) (CX.2.2.2.2.1 _ hlk) (fun _ h9 => h9) rfl (by decide +kernel) rfl rfl (Nat.le_of_ble_eq_true rfl) hdg (fun H1 locs1 h1 h2 h3 => kk _ H1 locs1 rfl ⟨h1, h2, h3, HW.2.2.2.st hu⟩)
theorem vg_35_branch (CX : vd_Cx p s m c cc nL args own D) (HW : vd_WS D ad s K H locs) (hlk : Cond.fieldLink own idx "VersionDepotModel" "branch" "[I" ∈ vd_tbl) (hdg : decode cc pc = .ok (.getfield idx, 3)) (kk : W p l e R s m args below meth c H locs cells slots Q (F0 m (pc + 3) ls (.ref (ad 18) :: rest))) : W p l e R s m args below meth c H locs cells slots Q (F0 m pc ls (.ref (ad 35) :: rest)) :=
  va_get (D := D) (ci := 4) (v := .ref (ad 18)) (C := R_M) (T := T_M) (N := 12) CX.1 CX.2.1 CX.2.2.2.2.1 in_M CX.2.2.2.1 CX.2.2.2.2.2 HW.1 5 rfl rfl 5 (by decide) (CX.2.2.2.2.1 _ hlk) (fun _ h9 => h9) rfl hdg kk
theorem vg_35_head (CX : vd_Cx p s m c cc nL args own D) (HW : vd_WS D ad s K H locs) (hlk : Cond.fieldLink own idx "VersionDepotModel" "head" "I" ∈ vd_tbl) (hdg : decode cc pc = .ok (.getfield idx, 3)) (kk : K 48 0 ≤ vd_ub 48 → W p l e R s m args below meth c H locs cells slots Q (F0 m (pc + 3) ls (.int (nI (K 48 0)) :: rest))) : W p l e R s m args below meth c H locs cells slots Q (F0 m pc ls (.ref (ad 35) :: rest)) :=
  va_get (D := D) (ci := 4) (v := .int (nI (K 48 0))) (C := R_M) (T := T_M) (N := 12) CX.1 CX.2.1 CX.2.2.2.2.1 in_M CX.2.2.2.1 CX.2.2.2.2.2 HW.1 5 rfl rfl 6 (by decide) (CX.2.2.2.2.1 _ hlk) (fun _ h9 => h9) rfl hdg (kk (HW.2.2.2 48 0 (by decide)))
theorem vt_35_head (CX : vd_Cx p s m c cc nL args own D) (HW : vd_WS D ad s K H locs) {x : Nat} (hu : x ≤ vd_ub 48) (hlk : Cond.fieldLink own idx "VersionDepotModel" "head" "I" ∈ vd_tbl) (hdg : decode cc pc = .ok (.putfield idx, 3)) (kk : ∀ (K' : KT) (H' : Heap) (locs' : List Loc), K' = vd_st K 48 0 x → vd_WS D ad s K' H' locs' → W p l e R s m args below meth c H' locs' cells slots Q (F0 m (pc + 3) ls rest)) : W p l e R s m args below meth c H locs cells slots Q (F0 m pc ls (.int (nI x) :: .ref (ad 35) :: rest)) :=
  va_put (D := D) (ci := 4) (v := .int (nI x)) (ty := .int) (C := R_M) (T := T_M) (N := 12) CX.1 CX.2.1 CX.2.2.2.2.1 in_M ty_M tyok_M nm_M CX.2.2.2.1 CX.2.2.2.2.2 HW.1 HW.2.1 HW.2.2.1 5 rfl rfl 6 (by decide) (CX.2.2.2.2.1 _ hlk) (fun _ h9 => h9) rfl (by decide +kernel) rfl rfl (Nat.le_of_ble_eq_true rfl) hdg (fun H1 locs1 h1 h2 h3 => kk _ H1 locs1 rfl ⟨h1, h2, h3, HW.2.2.2.st hu⟩)
theorem vg_35_merging (CX : vd_Cx p s m c cc nL args own D) (HW : vd_WS D ad s K H locs) (hlk : Cond.fieldLink own idx "VersionDepotModel" "merging" "I" ∈ vd_tbl) (hdg : decode cc pc = .ok (.getfield idx, 3)) (kk : K 49 0 ≤ vd_ub 49 → W p l e R s m args below meth c H locs cells slots Q (F0 m (pc + 3) ls (.int (nI (K 49 0)) :: rest))) : W p l e R s m args below meth c H locs cells slots Q (F0 m pc ls (.ref (ad 35) :: rest)) :=
  va_get (D := D) (ci := 4) (v := .int (nI (K 49 0))) (C := R_M) (T := T_M) (N := 12) CX.1 CX.2.1 CX.2.2.2.2.1 in_M CX.2.2.2.1 CX.2.2.2.2.2 HW.1 5 rfl rfl 7 (by decide) (CX.2.2.2.2.1 _ hlk) (fun _ h9 => h9) rfl hdg (kk (HW.2.2.2 49 0 (by decide)))
theorem vt_35_merging (CX : vd_Cx p s m c cc nL args own D) (HW : vd_WS D ad s K H locs) {x : Nat} (hu : x ≤ vd_ub 49) (hlk : Cond.fieldLink own idx "VersionDepotModel" "merging" "I" ∈ vd_tbl) (hdg : decode cc pc = .ok (.putfield idx, 3)) (kk : ∀ (K' : KT) (H' : Heap) (locs' : List Loc), K' = vd_st K 49 0 x → vd_WS D ad s K' H' locs' → W p l e R s m args below meth c H' locs' cells slots Q (F0 m (pc + 3) ls rest)) : W p l e R s m args below meth c H locs cells slots Q (F0 m pc ls (.int (nI x) :: .ref (ad 35) :: rest)) :=
  va_put (D := D) (ci := 4) (v := .int (nI x)) (ty := .int) (C := R_M) (T := T_M) (N := 12) CX.1 CX.2.1 CX.2.2.2.2.1 in_M ty_M tyok_M nm_M CX.2.2.2.1 CX.2.2.2.2.2 HW.1 HW.2.1 HW.2.2.1 5 rfl rfl 7 (by decide) (CX.2.2.2.2.1 _ hlk) (fun _ h9 => h9) rfl (by decide +kernel) rfl rfl (Nat.le_of_ble_eq_true rfl) hdg (fun H1 locs1 h1 h2 h3 => kk _ H1 locs1 rfl ⟨h1, h2, h3, HW.2.2.2.st hu⟩)
theorem vg_35_clashing (CX : vd_Cx p s m c cc nL args own D) (HW : vd_WS D ad s K H locs) (hlk : Cond.fieldLink own idx "VersionDepotModel" "clashing" "[Z" ∈ vd_tbl) (hdg : decode cc pc = .ok (.getfield idx, 3)) (kk : W p l e R s m args below meth c H locs cells slots Q (F0 m (pc + 3) ls (.ref (ad 19) :: rest))) : W p l e R s m args below meth c H locs cells slots Q (F0 m pc ls (.ref (ad 35) :: rest)) :=
  va_get (D := D) (ci := 4) (v := .ref (ad 19)) (C := R_M) (T := T_M) (N := 12) CX.1 CX.2.1 CX.2.2.2.2.1 in_M CX.2.2.2.1 CX.2.2.2.2.2 HW.1 5 rfl rfl 8 (by decide) (CX.2.2.2.2.1 _ hlk) (fun _ h9 => h9) rfl hdg kk
theorem vg_35_blob (CX : vd_Cx p s m c cc nL args own D) (HW : vd_WS D ad s K H locs) (hlk : Cond.fieldLink own idx "VersionDepotModel" "blob" "[Z" ∈ vd_tbl) (hdg : decode cc pc = .ok (.getfield idx, 3)) (kk : W p l e R s m args below meth c H locs cells slots Q (F0 m (pc + 3) ls (.ref (ad 20) :: rest))) : W p l e R s m args below meth c H locs cells slots Q (F0 m pc ls (.ref (ad 35) :: rest)) :=
  va_get (D := D) (ci := 4) (v := .ref (ad 20)) (C := R_M) (T := T_M) (N := 12) CX.1 CX.2.1 CX.2.2.2.2.1 in_M CX.2.2.2.1 CX.2.2.2.2.2 HW.1 5 rfl rfl 9 (by decide) (CX.2.2.2.2.1 _ hlk) (fun _ h9 => h9) rfl hdg kk
theorem vg_35_marked (CX : vd_Cx p s m c cc nL args own D) (HW : vd_WS D ad s K H locs) (hlk : Cond.fieldLink own idx "VersionDepotModel" "marked" "[Z" ∈ vd_tbl) (hdg : decode cc pc = .ok (.getfield idx, 3)) (kk : W p l e R s m args below meth c H locs cells slots Q (F0 m (pc + 3) ls (.ref (ad 21) :: rest))) : W p l e R s m args below meth c H locs cells slots Q (F0 m pc ls (.ref (ad 35) :: rest)) :=
  va_get (D := D) (ci := 4) (v := .ref (ad 21)) (C := R_M) (T := T_M) (N := 12) CX.1 CX.2.1 CX.2.2.2.2.1 in_M CX.2.2.2.1 CX.2.2.2.2.2 HW.1 5 rfl rfl 10 (by decide) (CX.2.2.2.2.1 _ hlk) (fun _ h9 => h9) rfl hdg kk
theorem vg_35_other (CX : vd_Cx p s m c cc nL args own D) (HW : vd_WS D ad s K H locs) (hlk : Cond.fieldLink own idx "VersionDepotModel" "other" "[Z" ∈ vd_tbl) (hdg : decode cc pc = .ok (.getfield idx, 3)) (kk : W p l e R s m args below meth c H locs cells slots Q (F0 m (pc + 3) ls (.ref (ad 22) :: rest))) : W p l e R s m args below meth c H locs cells slots Q (F0 m pc ls (.ref (ad 35) :: rest)) :=
  va_get (D := D) (ci := 4) (v := .ref (ad 22)) (C := R_M) (T := T_M) (N := 12) CX.1 CX.2.1 CX.2.2.2.2.1 in_M CX.2.2.2.1 CX.2.2.2.2.2 HW.1 5 rfl rfl 11 (by decide) (CX.2.2.2.2.1 _ hlk) (fun _ h9 => h9) rfl hdg kk
end VDF
end
section
/-! WHAT THE METHODS MEAN, in words of K -/
theorem vd_ltI {x : Int32} {b : Nat} (hb : b < 2 ^ 31) : x < nI b ↔ x.toInt < (b : Int) := by rw [Int32.lt_iff_toInt_lt, nI_toInt hb]
theorem vd_leI {x : Int32} {b : Nat} (hb : b < 2 ^ 31) : x ≤ nI b ↔ x.toInt ≤ (b : Int) := by rw [Int32.le_iff_toInt_le, nI_toInt hb]
theorem vd_geI {x : Int32} {b : Nat} (hb : b < 2 ^ 31) : nI b ≤ x ↔ (b : Int) ≤ x.toInt := by rw [Int32.le_iff_toInt_le, nI_toInt hb]
theorem vd_gtI {x : Int32} {b : Nat} (hb : b < 2 ^ 31) : nI b < x ↔ (b : Int) < x.toInt := by rw [Int32.lt_iff_toInt_lt, nI_toInt hb]
theorem vd_ltZ {x : Int32} : x < 0 ↔ x.toInt < 0 := by rw [← nI_0, vd_ltI (by decide)]; rfl
theorem vd_ofI {x : Int32} {lo hi : Nat} (h1 : (lo : Int) ≤ x.toInt) (h2 : x.toInt ≤ (hi : Int)) : ∃ c : Nat, lo ≤ c ∧ c ≤ hi ∧ x = nI c := by
  obtain ⟨j, hj, rfl⟩ := nI_of (x := x) (fun h => by have := vd_ltZ.mp h; omega)
  rw [nI_toInt hj] at h1 h2
  exact ⟨j, by omega, by omega, rfl⟩
def vd_in (lo hi : Nat) (x : Int32) : Bool := decide ((lo : Int) ≤ x.toInt ∧ x.toInt ≤ (hi : Int))
theorem vd_in_t {lo hi : Nat} {x : Int32} (h : vd_in lo hi x = true) : ∃ c : Nat, lo ≤ c ∧ c ≤ hi ∧ x = nI c := vd_ofI (of_decide_eq_true h).1 (of_decide_eq_true h).2
theorem vd_in_y {lo hi : Nat} {x : Int32} (h1 : (lo : Int) ≤ x.toInt) (h2 : x.toInt ≤ (hi : Int)) : vd_in lo hi x = true := decide_eq_true ⟨h1, h2⟩
theorem vd_in_l {lo hi : Nat} {x : Int32} (h : x.toInt < (lo : Int)) : vd_in lo hi x = false := decide_eq_false (fun q => by omega)
theorem vd_in_h {lo hi : Nat} {x : Int32} (h : (hi : Int) < x.toInt) : vd_in lo hi x = false := decide_eq_false (fun q => by omega)
theorem vd_in_n {lo hi c : Nat} (h1 : lo ≤ c) (h2 : c ≤ hi) (hh : hi < 2 ^ 31) : vd_in lo hi (nI c) = true := by
  have e : (nI c).toInt = (c : Int) := nI_toInt (by omega)
  exact vd_in_y (by omega) (by omega)
theorem vd_bn {a b : Nat} (h : a ≠ b) : (a != b) = true := by simp [h]
theorem vd_be {a b : Nat} (h : a = b) : (a != b) = false := by simp [h]
theorem vd_bne {a : Nat} (h : a ≠ 0) : (a != 0) = true := by simp [h]
/-- how many below n -/
def vd_cn (P : Nat → Bool) : Nat → Nat
  | 0 => 0
  | n + 1 => vd_cn P n + (P n).toNat
theorem vd_cn_le (P : Nat → Bool) : ∀ n, vd_cn P n ≤ n
  | 0 => Nat.le_refl 0
  | n + 1 => by
    have h := vd_cn_le P n
    have h2 : (P n).toNat ≤ 1 := by cases P n <;> decide
    show vd_cn P n + (P n).toNat ≤ n + 1
    omega
theorem vd_cn_t {P : Nat → Bool} {n a : Nat} (ha : a = vd_cn P n) (h : P n = true) : a + 1 = vd_cn P (n + 1) := by
  show a + 1 = vd_cn P n + (P n).toNat
  rw [h, ha]
  rfl
theorem vd_cn_f {P : Nat → Bool} {n a : Nat} (ha : a = vd_cn P n) (h : P n = false) : a = vd_cn P (n + 1) := by
  show a = vd_cn P n + (P n).toNat
  rw [h, ha]
  rfl
/-- the bits below n -/
def vd_mk (P : Nat → Bool) : Nat → Nat
  | 0 => 0
  | n + 1 => vd_mk P n ||| (if P n = true then 2 ^ n else 0)
theorem vd_mk_t {P : Nat → Bool} {n a : Nat} (ha : a = vd_mk P n) (h : P n = true) : a ||| 2 ^ n = vd_mk P (n + 1) := by
  show a ||| 2 ^ n = vd_mk P n ||| (if P n = true then 2 ^ n else 0)
  rw [if_pos h, ha]
theorem vd_mk_f {P : Nat → Bool} {n a : Nat} (ha : a = vd_mk P n) (h : P n = false) : a = vd_mk P (n + 1) := by
  show a = vd_mk P n ||| (if P n = true then 2 ^ n else 0)
  rw [if_neg (by rw [h]; decide), Nat.or_zero, ha]
theorem vd_mk_lt (P : Nat → Bool) : ∀ n, vd_mk P n < 2 ^ n
  | 0 => Nat.zero_lt_one
  | n + 1 => by
    have h := vd_mk_lt P n
    have h1 : vd_mk P n < 2 ^ (n + 1) := Nat.lt_of_lt_of_le h (Nat.pow_le_pow_right (by decide) (Nat.le_succ n))
    have h2 : (if P n = true then 2 ^ n else 0) < 2 ^ (n + 1) := by
      split
      · exact Nat.pow_lt_pow_right (by decide) (Nat.lt_succ_self n)
      · exact Nat.pow_pos (by decide)
    exact Nat.or_lt_two_pow h1 h2
/-- two rows are alike below n -/
def vd_eqn (a b : Nat → Nat) : Nat → Bool
  | 0 => true
  | n + 1 => vd_eqn a b n && (a n == b n)
theorem vd_eqn_i {a b : Nat → Nat} : ∀ {n : Nat}, vd_eqn a b n = true ↔ ∀ f, f < n → a f = b f
  | 0 => ⟨fun _ f hf => absurd hf (by omega), fun _ => rfl⟩
  | n + 1 => by
    show (vd_eqn a b n && (a n == b n)) = true ↔ _
    rw [Bool.and_eq_true, vd_eqn_i (n := n), beq_iff_eq]
    constructor
    · rintro ⟨h1, h2⟩ f hf
      by_cases e : f = n
      · subst e
        exact h2
      · exact h1 f (by omega)
    · intro h
      exact ⟨fun f hf => h f (by omega), h n (by omega)⟩
theorem vd_eqn_t {a b : Nat → Nat} {n : Nat} (h : ∀ f, f < n → a f = b f) : vd_eqn a b n = true := vd_eqn_i.mpr h
theorem vd_eqn_f {a b : Nat → Nat} {n : Nat} (h : ¬ ∀ f, f < n → a f = b f) : vd_eqn a b n = false := by
  cases hb : vd_eqn a b n with
  | false => rfl
  | true => exact absurd (vd_eqn_i.mp hb) h
theorem vd_eqn_c {a b a' b' : Nat → Nat} {n n' : Nat} (h : (∀ f, f < n → a f = b f) ↔ ∀ f, f < n' → a' f = b' f) : vd_eqn a b n = vd_eqn a' b' n' := by
  rw [Bool.eq_iff_iff, vd_eqn_i, vd_eqn_i]
  exact h
def vd_here (K : KT) : Nat := K 3 (K 40 0)
def vd_cnt (K : KT) (c f : Nat) : Nat := K 10 (K 12 (K 4 c * 4 + f / 4) * 4 + f % 4)
theorem vd_cnt_of {K K' : KT} (h1 : K' 4 = K 4) (h2 : K' 10 = K 10) (h3 : K' 12 = K 12) (c f : Nat) : vd_cnt K' c f = vd_cnt K c f := by
  unfold vd_cnt
  rw [h1, h2, h3]
def vd_un (K : KT) : Nat := vd_cn (fun f => K 0 f != K 1 f) 16
/-- array j is as HERE -/
def vd_ash (K : KT) (j : Nat) : Bool := vd_eqn (fun f => K j f) (fun f => vd_cnt K (vd_here K) f) 16
def vd_tidy (K : KT) : Bool := (vd_un K == 0) && vd_ash K 1
/-- HEAD at c, index and work as c -/
def vd_mv (K : KT) (c : Nat) : KT := vd_fl (vd_fl (vd_st K 3 (K 40 0) c) 1 0 16 (fun f => vd_cnt K c f)) 0 0 16 (fun f => vd_cnt K c f)
def vd_clash (K : KT) (o b f : Nat) : Bool := (vd_cnt K (vd_here K) f != vd_cnt K o f) && ((vd_cnt K (vd_here K) f != vd_cnt K b f) && (vd_cnt K o f != vd_cnt K b f))
def vd_mixv (K : KT) (o b f : Nat) : Nat := if vd_cnt K (vd_here K) f = vd_cnt K b f then vd_cnt K o f else vd_cnt K (vd_here K) f
def vd_mix (K : KT) (o b : Nat) : KT := vd_fl K 2 0 16 (fun f => vd_mixv K o b f)
def vd_hol (K : KT) (x : Int32) : Bool := vd_in 1 30 x && (K 44 0).testBit x.toNatClampNeg
theorem vd_hol_t {K : KT} {x : Int32} (h : vd_hol K x = true) : ∃ c : Nat, 1 ≤ c ∧ c ≤ 30 ∧ x = nI c ∧ (K 44 0).testBit c = true := by
  unfold vd_hol at h
  rw [Bool.and_eq_true] at h
  obtain ⟨c, h1, h2, rfl⟩ := vd_in_t h.1
  rw [nI_clamp (by omega)] at h
  exact ⟨c, h1, h2, rfl, h.2⟩
/-- the greatest number below n + 1 and above 0 that has P; 0 if there is none -/
def vd_topP (P : Nat → Bool) : Nat → Nat
  | 0 => 0
  | n + 1 => if P (n + 1) = true then n + 1 else vd_topP P n
abbrev vd_top (x : Nat) (n : Nat) : Nat := vd_topP (fun k => x.testBit k) n
theorem vd_topP_s (P : Nat → Bool) (n : Nat) : vd_topP P (n + 1) = if P (n + 1) = true then n + 1 else vd_topP P n := rfl
theorem vd_top_s (x n : Nat) : vd_top x (n + 1) = if x.testBit (n + 1) = true then n + 1 else vd_top x n := rfl
theorem vd_topP_le (P : Nat → Bool) : ∀ n, vd_topP P n ≤ n
  | 0 => Nat.le_refl 0
  | n + 1 => by
    rw [vd_topP_s]
    split
    · exact Nat.le_refl _
    · exact Nat.le_succ_of_le (vd_topP_le P n)
theorem vd_bit0 {x y : Nat} : x &&& 2 ^ y = 0 ↔ x.testBit y = false := by
  constructor
  · intro h
    have h1 : (x &&& 2 ^ y).testBit y = (0 : Nat).testBit y := by rw [h]
    rw [Nat.testBit_and, Nat.testBit_two_pow_self, Bool.and_true, Nat.zero_testBit] at h1
    exact h1
  · intro h
    apply Nat.eq_of_testBit_eq
    intro i
    rw [Nat.testBit_and, Nat.zero_testBit, Nat.testBit_two_pow]
    by_cases hi : y = i
    · subst hi
      rw [h]
      rfl
    · rw [decide_eq_false hi, Bool.and_false]
theorem vd_bit1 {x y : Nat} : x &&& 2 ^ y ≠ 0 ↔ x.testBit y = true := by
  rw [ne_eq, vd_bit0]
  cases x.testBit y <;> simp
theorem vd_andle {x y : Nat} : x &&& 2 ^ y ≤ x := Nat.and_le_left
theorem vd_pow31 {y : Nat} (h : y < 31) : 2 ^ y < 2147483648 := Nat.pow_lt_pow_right (n := 31) (by decide) h
theorem vd_or31 {x y : Nat} (hx : x ≤ 2147483647) (hy : y ≤ 2147483647) : x ||| y ≤ 2147483647 :=
  Nat.le_of_lt_succ (Nat.or_lt_two_pow (n := 31) (Nat.lt_succ_of_le hx) (Nat.lt_succ_of_le hy))
theorem vd_and31 {x y : Nat} (hx : x ≤ 2147483647) : x &&& y ≤ 2147483647 := Nat.le_trans Nat.and_le_left hx
def vd_there (K : KT) (x : Int32) : Bool := vd_in 0 5 x && (K 3 x.toNatClampNeg != 0)
def vd_rsz (K : KT) (ss la : Nat) : Nat := vd_cn (fun r => K ss (r + 1) != 0) (K la 0)
def vd_alk (K : KT) (nn src r f : Nat) : Bool := vd_eqn (fun q => K nn (r * 4 + q)) (fun q => K src (f + q)) 4
/-- the first place from r on, of n, that has P; r + n if there is none -/
def vd_fs (P : Nat → Bool) : Nat → Nat → Nat
  | r, 0 => r
  | r, n + 1 => if P r = true then r else vd_fs P (r + 1) n
theorem vd_fs_s (P : Nat → Bool) (r n : Nat) : vd_fs P r (n + 1) = if P r = true then r else vd_fs P (r + 1) n := rfl
theorem vd_fs_le (P : Nat → Bool) : ∀ n r, vd_fs P r n ≤ r + n
  | 0, r => Nat.le_refl r
  | n + 1, r => by
    rw [vd_fs_s]
    split
    · omega
    · have h := vd_fs_le P n (r + 1)
      omega
theorem vd_fs_ge (P : Nat → Bool) : ∀ n r, r ≤ vd_fs P r n
  | 0, r => Nat.le_refl r
  | n + 1, r => by
    rw [vd_fs_s]
    split
    · omega
    · have h := vd_fs_ge P n (r + 1)
      omega
def vd_row (K : KT) (nn la src f : Nat) : Nat := vd_fs (fun r => vd_alk K nn src r f) 1 (K la 0)
theorem vd_row_le (K : KT) (nn la src f : Nat) : vd_row K nn la src f ≤ K la 0 + 1 := by
  have h := vd_fs_le (fun r => vd_alk K nn src r f) (K la 0) 1
  unfold vd_row
  omega
def vd_keep (K : KT) (nn ss la src f : Nat) : KT := vd_st (if K la 0 < vd_row K nn la src f then vd_st (vd_fl K nn (vd_row K nn la src f * 4) 4 (fun b => K src (f + b))) la 0 (vd_row K nn la src f) else K) ss (vd_row K nn la src f) 1
/-- the blob of x is stored -/
def vd_bk (K : KT) (x : Nat) : KT := if x = 0 then K else vd_st K 9 (x / 64) (K 9 (x / 64) ||| 2 ^ (x % 64))
theorem vd_bk_o (K : KT) (x : Nat) {a : Nat} (h : a ≠ 9) : vd_bk K x a = K a := by
  unfold vd_bk
  split
  · rfl
  · exact vd_st_o h
/-- the blobs of n places of array src from f on -/
def vd_bks (K : KT) (src f : Nat) : Nat → KT
  | 0 => K
  | n + 1 => vd_bk (vd_bks K src f n) (K src (f + n))
theorem vd_bks_o (K : KT) (src f : Nat) {a : Nat} (h : a ≠ 9) : ∀ n, vd_bks K src f n a = K a
  | 0 => rfl
  | n + 1 => by
    show vd_bk (vd_bks K src f n) _ a = K a
    rw [vd_bk_o _ _ h, vd_bks_o K src f h n]
def vd_por (K : KT) (src f : Nat) : Nat → Nat
  | 0 => 0
  | n + 1 => vd_por K src f n ||| K src (f + n)
/-- keepFolder: the state behind it, the number that it answers -/
def vd_kfK (K : KT) (src f : Nat) : KT := if vd_por K src f 4 = 0 then vd_bks K src f 4 else vd_keep (vd_bks K src f 4) 10 11 45 src f
def vd_kfr (K : KT) (src f : Nat) : Nat := if vd_por K src f 4 = 0 then 0 else vd_row (vd_bks K src f 4) 10 45 src f
def vd_kf (K : KT) (src : Nat) : Nat → KT
  | 0 => K
  | n + 1 => vd_st (vd_kfK (vd_kf K src n) src (n * 4)) 8 n (vd_kfr (vd_kf K src n) src (n * 4))
def vd_krK (K : KT) (src : Nat) : KT := vd_keep (vd_kf K src 4) 12 13 46 8 0
def vd_krr (K : KT) (src : Nat) : Nat := vd_row (vd_kf K src 4) 12 46 8 0
/-- make: the state behind it -/
def vd_mkK (K : KT) (src a b : Nat) : KT :=
  let n := K 43 0 + 1
  let K1 := vd_st (vd_krK (vd_st K 43 0 n) src) 4 n (vd_krr (vd_st K 43 0 n) src)
  let K2 := vd_st (vd_st K1 5 n a) 6 n b
  vd_st (vd_st K2 7 n (2 ^ n ||| K2 7 a ||| K2 7 b)) 44 0 (K2 44 0 ||| 2 ^ n)
/-- Store.keepAgain -/
def vd_ka1 (K : KT) (r : Nat) : Nat → KT
  | 0 => K
  | n + 1 => vd_bk (vd_ka1 K r n) (K 10 (r * 4 + n))
def vd_ka (K : KT) (r : Nat) : Nat → KT
  | 0 => vd_st K 13 r 1
  | n + 1 => vd_ka1 (vd_st (vd_ka K r n) 11 (K 12 (r * 4 + n)) 1) (K 12 (r * 4 + n)) 4
def vd_ko (K : KT) : Nat → KT
  | 0 => K
  | n + 1 => if (K 44 0).testBit (n + 1) = true then vd_ka (vd_ko K n) (K 4 (n + 1)) 4 else vd_ko K n
theorem vd_ko_s (K : KT) (n : Nat) : vd_ko K (n + 1) = if (K 44 0).testBit (n + 1) = true then vd_ka (vd_ko K n) (K 4 (n + 1)) 4 else vd_ko K n := rfl
theorem vd_kf_s (K : KT) (src n : Nat) : vd_kf K src (n + 1) = vd_st (vd_kfK (vd_kf K src n) src (n * 4)) 8 n (vd_kfr (vd_kf K src n) src (n * 4)) := rfl
theorem vd_ka_s (K : KT) (r n : Nat) : vd_ka K r (n + 1) = vd_ka1 (vd_st (vd_ka K r n) 11 (K 12 (r * 4 + n)) 1) (K 12 (r * 4 + n)) 4 := rfl
def vd_koK (K : KT) (needed : Nat) : KT := vd_ko (vd_st (vd_fl (vd_fl (vd_fl K 9 0 157 (fun _ => 0)) 11 0 121 (fun _ => 0)) 13 0 31 (fun _ => 0)) 44 0 needed) (K 43 0)
theorem vd_or14 {x y : Nat} (hx : x ≤ 16383) (hy : y ≤ 9999) : x ||| y ≤ 16383 :=
  Nat.le_of_lt_succ (Nat.or_lt_two_pow (n := 14) (Nat.lt_succ_of_le hx) (by omega))
theorem vd_keep_la {K : KT} {nn ss la src f : Nat} (h1 : la ≠ ss) : vd_keep K nn ss la src f la 0 ≤ K la 0 + 1 := by
  unfold vd_keep
  rw [vd_st_o h1]
  split
  · rw [vd_st_s]
    show (if 0 = 0 then _ else _) ≤ _
    rw [if_pos rfl]
    exact vd_row_le K nn la src f
  · exact Nat.le_succ _
theorem vd_kfK_45 {K : KT} {src f : Nat} : vd_kfK K src f 45 0 ≤ K 45 0 + 1 := by
  unfold vd_kfK
  split
  · rw [vd_bks_o _ _ _ (by decide)]
    exact Nat.le_succ _
  · have h := vd_keep_la (K := vd_bks K src f 4) (nn := 10) (ss := 11) (la := 45) (src := src) (f := f) (by decide)
    rw [vd_bks_o _ _ _ (a := 45) (by decide)] at h
    exact h
/-! the reference -/
def vd_hereM (K : KT) : Nat := K 18 (K 48 0)
def vd_stoM (K : KT) (x : Int32) : Bool := vd_in 1 30 x && (K 15 x.toNatClampNeg != 0)
theorem vd_stoM_t {K : KT} {x : Int32} (h : vd_stoM K x = true) : ∃ c : Nat, 1 ≤ c ∧ c ≤ 30 ∧ x = nI c ∧ K 15 c ≠ 0 := by
  unfold vd_stoM at h
  rw [Bool.and_eq_true] at h
  obtain ⟨c, h1, h2, rfl⟩ := vd_in_t h.1
  rw [nI_clamp (by omega)] at h
  exact ⟨c, h1, h2, rfl, by simpa using h.2⟩
def vd_same (K : KT) (a b : Nat) : Bool := vd_eqn (fun f => K 14 (16 * a + f)) (fun f => K 14 (16 * b + f)) 16
def vd_cp (K : KT) (a b : Nat) : KT := vd_fl K 14 (16 * b) 16 (fun f => K 14 (16 * a + f))
def vd_shw (K : KT) (c : Nat) : KT := vd_cp (vd_cp K c 32) c 31
def vd_tidyM (K : KT) : Bool := vd_same K 31 32 && vd_same K 32 (vd_hereM K)
def vd_bl (K : KT) (v : Nat) : KT := if v = 0 then K else vd_st K 20 v 1
theorem vd_bl_o (K : KT) (x : Nat) {a : Nat} (h : a ≠ 20) : vd_bl K x a = K a := by
  unfold vd_bl
  split
  · rfl
  · exact vd_st_o h
def vd_bls (K : KT) (o : Nat) : Nat → KT
  | 0 => K
  | i + 1 => vd_bl (vd_bls K o i) (K 14 (o + i))
theorem vd_bls_s (K : KT) (o i : Nat) : vd_bls K o (i + 1) = vd_bl (vd_bls K o i) (K 14 (o + i)) := rfl
theorem vd_bls_o (K : KT) (o : Nat) {a : Nat} (h : a ≠ 20) : ∀ n, vd_bls K o n a = K a
  | 0 => rfl
  | n + 1 => by
    show vd_bl (vd_bls K o n) _ a = K a
    rw [vd_bl_o _ _ h, vd_bls_o K o h n]
def vd_mkM (K : KT) (row one two : Nat) : KT :=
  let n := K 47 0 + 1
  let K1 := vd_cp (vd_st K 47 0 n) row n
  let K2 := vd_bls (vd_st (vd_st (vd_st K1 15 n 1) 16 n one) 17 n two) (16 * n) 16
  vd_st K2 18 (K2 48 0) n
def vd_clM (K : KT) : Nat := vd_cn (fun f => K 19 f != 0) 16
def vd_mk0 (K : KT) (c n : Nat) : KT := vd_fl K 21 0 n (fun k => if k = c ∧ c ≠ 0 then 1 else 0)
def vd_mk1 (K : KT) (j : Nat) : KT := if K 21 j ≠ 0 then vd_st (vd_st K 21 (K 16 j) 1) 21 (K 17 j) 1 else K
def vd_mkd : Nat → KT → KT
  | 0, K => K
  | j + 1, K => vd_mkd j (vd_mk1 K (j + 1))
theorem vd_mkd_0 (K : KT) : vd_mkd 0 K = K := rfl
theorem vd_mkd_s (j : Nat) (K : KT) : vd_mkd (j + 1) K = vd_mkd j (vd_mk1 K (j + 1)) := rfl
def vd_mar (K : KT) (c : Nat) : KT := vd_st (vd_mkd 30 (vd_mk0 K c 31)) 21 0 0
def vd_shK (K : KT) (a b : Nat) : KT := vd_mar (vd_fl (vd_mar K a) 22 0 31 (fun k => vd_mar K a 21 k)) b
def vd_shr (K : KT) (a b : Nat) : Nat := vd_topP (fun k => vd_shK K a b 21 k != 0 && vd_shK K a b 22 k != 0) 30
def vd_xcl (K : KT) (x y z f : Nat) : Bool := (K 14 (16 * x + f) != K 14 (16 * y + f)) && ((K 14 (16 * x + f) != K 14 (16 * z + f)) && (K 14 (16 * y + f) != K 14 (16 * z + f)))
def vd_xmv (K : KT) (x y z f : Nat) : Nat := if K 14 (16 * x + f) = K 14 (16 * z + f) then K 14 (16 * y + f) else K 14 (16 * x + f)
def vd_mxl (K : KT) (x y z w : Nat) : Nat → KT
  | 0 => K
  | i + 1 => if w ≠ 0 then vd_st (vd_st (vd_mxl K x y z w i) 14 (528 + i) (vd_xmv K x y z i)) 19 i (vd_xcl K x y z i).toNat else vd_st (vd_mxl K x y z w i) 14 (528 + i) (vd_xmv K x y z i)
theorem vd_mxl_s (K : KT) (x y z w i : Nat) : vd_mxl K x y z w (i + 1) = if w ≠ 0 then vd_st (vd_st (vd_mxl K x y z w i) 14 (528 + i) (vd_xmv K x y z i)) 19 i (vd_xcl K x y z i).toNat else vd_st (vd_mxl K x y z w i) 14 (528 + i) (vd_xmv K x y z i) := rfl
theorem vd_mxl_14 (K : KT) (x y z w : Nat) {b : Nat} (h : b < 528) : ∀ i, vd_mxl K x y z w i 14 b = K 14 b
  | 0 => rfl
  | i + 1 => by
    have ih := vd_mxl_14 K x y z w h i
    rw [vd_mxl_s]
    split
    · rw [vd_st_o (by decide), vd_st_s]
      show (if b = 528 + i then _ else _) = _
      rw [if_neg (by omega)]
      exact ih
    · rw [vd_st_s]
      show (if b = 528 + i then _ else _) = _
      rw [if_neg (by omega)]
      exact ih
def vd_frR (K : KT) (a : Nat) : Bool := decide (K 15 a ≠ 0 ∧ ∀ b, b < a → 1 ≤ b → ¬ (K 15 b ≠ 0 ∧ vd_same K a b = true))
def vd_alM (K : KT) (i j : Nat) : Bool := vd_eqn (fun q => K 14 (i + q)) (fun q => K 14 (j + q)) 4
def vd_orM (K : KT) (i : Nat) : Nat := K 14 i ||| K 14 (i + 1) ||| K 14 (i + 2) ||| K 14 (i + 3)
def vd_frF (K : KT) (t : Nat) : Bool := decide (K 15 ((16 + 4 * t) / 16) ≠ 0 ∧ vd_orM K (16 + 4 * t) ≠ 0 ∧ ∀ u, u < t → ¬ (K 15 ((16 + 4 * u) / 16) ≠ 0 ∧ vd_alM K (16 + 4 * t) (16 + 4 * u) = true))
def vd_c0 (K : KT) : Nat := vd_cn (fun i => K 20 (i + 1) != 0) 9999
def vd_c1 (K : KT) : Nat := vd_cn (fun t => vd_frF K t) 120
def vd_c2 (K : KT) : Nat := vd_cn (fun i => vd_frR K (i + 1)) 30
def vd_c3 (K : KT) : Nat := vd_cn (fun i => K 15 (i + 1) != 0) 30
def vd_chg (K : KT) : Nat := vd_cn (fun f => K 14 (496 + f) != K 14 (512 + f)) 16
theorem vd_kfK_46 {K : KT} {src f : Nat} : vd_kfK K src f 46 = K 46 := by
  unfold vd_kfK
  split
  · rw [vd_bks_o _ _ _ (by decide)]
  · unfold vd_keep
    rw [vd_st_o (by decide)]
    split
    · rw [vd_st_o (by decide), vd_fl_o (by decide), vd_bks_o _ _ _ (by decide)]
    · rw [vd_bks_o _ _ _ (by decide)]
theorem vd_ka1_o (K : KT) (r : Nat) {a : Nat} (h : a ≠ 9) : ∀ n, vd_ka1 K r n a = K a
  | 0 => rfl
  | n + 1 => by
    show vd_bk (vd_ka1 K r n) _ a = K a
    rw [vd_bk_o _ _ h, vd_ka1_o K r h n]
def vd_f2 (K : KT) (g : Nat → Nat) (i : Nat) : KT := vd_fl (vd_fl K 1 0 i g) 0 0 i g
theorem vd_f2_0 {K : KT} {g : Nat → Nat} : vd_f2 K g 0 = K := by
  unfold vd_f2
  rw [vd_fl_0, vd_fl_0]
theorem vd_f2_s {K Kl Ka Kb : KT} {g : Nat → Nat} {i x y : Nat} (hk : Kl = vd_f2 K g i) (e1 : Ka = vd_st Kl 1 i x) (e2 : Kb = vd_st Ka 0 i y) (hx : x = g i) (hy : y = g i) : Kb = vd_f2 K g (i + 1) := by
  subst e2 e1 hk hx hy
  unfold vd_f2
  have s1 := vd_fl_s (K := K) (j := 1) (o := 0) (n := i) (g := g)
  have s0 := vd_fl_s (K := vd_fl K 1 0 (i + 1) g) (j := 0) (o := 0) (n := i) (g := g)
  rw [← s0, ← s1]
  rw [Nat.zero_add]
  funext a
  by_cases h0 : a = 0
  · subst h0
    rw [vd_st_s, vd_st_s, vd_st_o (by decide), vd_fl_i, vd_fl_i, vd_st_o (by decide)]
  · rw [vd_st_o h0, vd_st_o h0, vd_fl_o h0]
    by_cases h1 : a = 1
    · subst h1
      rw [vd_st_s, vd_st_s, vd_fl_o (by decide)]
    · rw [vd_st_o h1, vd_st_o h1, vd_fl_o h0]
theorem vd_keep_o {K : KT} {nn ss la src f a : Nat} (h1 : a ≠ nn) (h2 : a ≠ ss) (h3 : a ≠ la) : vd_keep K nn ss la src f a = K a := by
  unfold vd_keep
  rw [vd_st_o h2]
  split
  · rw [vd_st_o h3, vd_fl_o h1]
  · rfl
theorem vd_kfK_o {K : KT} {src f a : Nat} (h9 : a ≠ 9) (h10 : a ≠ 10) (h11 : a ≠ 11) (h45 : a ≠ 45) : vd_kfK K src f a = K a := by
  unfold vd_kfK
  split
  · rw [vd_bks_o _ _ _ h9]
  · rw [vd_keep_o h10 h11 h45, vd_bks_o _ _ _ h9]
theorem vd_kf_o {K : KT} {src a : Nat} (h8 : a ≠ 8) (h9 : a ≠ 9) (h10 : a ≠ 10) (h11 : a ≠ 11) (h45 : a ≠ 45) : ∀ n, vd_kf K src n a = K a
  | 0 => rfl
  | n + 1 => by
    rw [vd_kf_s]
    rw [vd_st_o h8, vd_kfK_o h9 h10 h11 h45, vd_kf_o h8 h9 h10 h11 h45 n]
theorem vd_krK_o {K : KT} {src a : Nat} (h8 : a ≠ 8) (h9 : a ≠ 9) (h10 : a ≠ 10) (h11 : a ≠ 11) (h12 : a ≠ 12) (h13 : a ≠ 13) (h45 : a ≠ 45) (h46 : a ≠ 46) : vd_krK K src a = K a := by
  unfold vd_krK
  rw [vd_keep_o h12 h13 h46, vd_kf_o h8 h9 h10 h11 h45]
theorem vd_krK_43 {K : KT} {src : Nat} : vd_krK K src 43 = K 43 := vd_krK_o (by decide) (by decide) (by decide) (by decide) (by decide) (by decide) (by decide) (by decide)
theorem vd_ka_o (K : KT) (r : Nat) {a : Nat} (h9 : a ≠ 9) (h11 : a ≠ 11) (h13 : a ≠ 13) : ∀ {n}, vd_ka K r n a = K a
  | 0 => vd_st_o h13
  | n + 1 => by
    rw [vd_ka_s]
    rw [vd_ka1_o _ _ h9, vd_st_o h11, vd_ka_o K r h9 h11 h13]
theorem vd_hol_b {K : KT} {c : Nat} (h : vd_hol K (nI c) = true) (h1 : 1 ≤ c) (h2 : c ≤ 30) : (K 44 0).testBit c = true := by
  unfold vd_hol at h
  rw [Bool.and_eq_true, nI_clamp (by omega)] at h
  exact h.2
theorem vd_hol_nb {K : KT} {c : Nat} (h : vd_hol K (nI c) = false) (h1 : 1 ≤ c) (h2 : c ≤ 30) : (K 44 0).testBit c = false := by
  unfold vd_hol at h
  rw [vd_in_n h1 h2 (by decide), Bool.true_and, nI_clamp (by omega)] at h
  exact h
/-- how many bits of x below n are set -/
def vd_pc (n x : Nat) : Nat := vd_cn (fun i => x.testBit i) n
def vd_bsz (K : KT) : Nat → Nat
  | 0 => 0
  | n + 1 => vd_bsz K n + vd_pc 64 (K 9 n)
theorem vd_bsz_le (K : KT) : ∀ n, vd_bsz K n ≤ 64 * n
  | 0 => Nat.le_refl 0
  | n + 1 => by
    have h1 := vd_bsz_le K n
    have h2 : vd_pc 64 (K 9 n) ≤ 64 := vd_cn_le _ _
    show vd_bsz K n + vd_pc 64 (K 9 n) ≤ 64 * (n + 1)
    omega
def vd_size (K : KT) : Nat := vd_bsz K 157 + vd_rsz K 11 45 + vd_rsz K 13 46 + vd_pc 32 (K 44 0)
def vd_clr (c f : Nat) : Nat := c &&& (65535 ^^^ 2 ^ f)
theorem vd_clr_le {c f : Nat} (h : c ≤ 65535) : vd_clr c f ≤ 65535 := Nat.le_trans Nat.and_le_left h
theorem vd_clrI {c f : Nat} (hc : c ≤ 65535) (hf : f < 16) : nI c &&& (nI (2 ^ f) ^^^ (-1 : Int32)) = nI (vd_clr c f) := by
  apply Int32.toBitVec_inj.1
  show BitVec.ofNat 32 c &&& (BitVec.ofNat 32 (2 ^ f) ^^^ BitVec.allOnes 32) = BitVec.ofNat 32 (vd_clr c f)
  apply BitVec.eq_of_getLsbD_eq
  intro i hi
  have hb : i ≥ 16 → c.testBit i = false := fun h => Nat.testBit_lt_two_pow (Nat.lt_of_lt_of_le (show c < 2 ^ 16 by omega) (Nat.pow_le_pow_right (by decide) h))
  have h6 : (65535 : Nat).testBit i = decide (i < 16) := Nat.testBit_two_pow_sub_one 16 i
  simp only [BitVec.getLsbD_and, BitVec.getLsbD_xor, BitVec.getLsbD_ofNat, BitVec.getLsbD_allOnes, vd_clr, Nat.testBit_and, Nat.testBit_xor, h6, hi, decide_true, Bool.true_and]
  by_cases h : i < 16
  · simp [h]
  · rw [hb (by omega)]
    simp
theorem vd_mkK_o {K : KT} {src a b j : Nat} (h4 : j ≠ 4) (h5 : j ≠ 5) (h6 : j ≠ 6) (h7 : j ≠ 7) (h8 : j ≠ 8) (h9 : j ≠ 9) (h10 : j ≠ 10) (h11 : j ≠ 11) (h12 : j ≠ 12) (h13 : j ≠ 13) (h43 : j ≠ 43) (h44 : j ≠ 44) (h45 : j ≠ 45) (h46 : j ≠ 46) : vd_mkK K src a b j = K j := by
  show vd_st (vd_st (vd_st (vd_st (vd_st (vd_krK (vd_st K 43 0 (K 43 0 + 1)) src) 4 _ _) 5 _ _) 6 _ _) 7 _ _) 44 _ _ j = K j
  rw [vd_st_o h44, vd_st_o h7, vd_st_o h6, vd_st_o h5, vd_st_o h4, vd_krK_o h8 h9 h10 h11 h12 h13 h45 h46, vd_st_o h43]
theorem vd_mkK_3 {K : KT} {src a b : Nat} : vd_mkK K src a b 3 = K 3 := vd_mkK_o (by decide) (by decide) (by decide) (by decide) (by decide) (by decide) (by decide) (by decide) (by decide) (by decide) (by decide) (by decide) (by decide) (by decide)
theorem vd_mkK_40 {K : KT} {src a b : Nat} : vd_mkK K src a b 40 = K 40 := vd_mkK_o (by decide) (by decide) (by decide) (by decide) (by decide) (by decide) (by decide) (by decide) (by decide) (by decide) (by decide) (by decide) (by decide) (by decide)
/-! the class's operations: answer and state -/
def vd_cmR (K : KT) : Int32 := if K 42 0 ≠ 0 then (-5 : Int32) else if K 41 0 = 0 ∧ vd_ash K 1 = true then (-3 : Int32) else if 30 ≤ K 43 0 then (-2 : Int32) else nI (K 43 0 + 1)
def vd_cmK (K : KT) : KT := if K 42 0 ≠ 0 then K else if K 41 0 = 0 ∧ vd_ash K 1 = true then K else if 30 ≤ K 43 0 then K else vd_st (vd_st (vd_mkK K 1 (vd_here K) (K 41 0)) 3 (K 40 0) (K 43 0 + 1)) 41 0 0
def vd_stK (K : KT) (f : Nat) : KT := vd_st (vd_bk (vd_st K 1 f (K 0 f)) (K 0 f)) 42 0 (vd_clr (K 42 0) f)
def vd_tuR (K : KT) (x : Int32) : Int32 := if vd_there K x = false ∨ K 41 0 ≠ 0 then (-1 : Int32) else if vd_tidy K = false then (-4 : Int32) else nI (K 3 x.toNatClampNeg)
def vd_tuK (K : KT) (x : Int32) : KT := if vd_there K x = false ∨ K 41 0 ≠ 0 then K else if vd_tidy K = false then K else vd_mv (vd_st K 40 0 x.toNatClampNeg) (K 3 x.toNatClampNeg)
/-- merge of commits that neither leads to the other -/
def vd_mask (K : KT) (o b : Nat) : Nat := vd_mk (fun f => vd_clash K o b f) 16
def vd_base (K : KT) (o : Nat) : Nat := vd_top (K 7 (vd_here K) &&& K 7 o) 30
def vd_maR (K : KT) (o : Nat) : Int32 := if vd_mask K o (vd_base K o) = 0 then (if 30 ≤ K 43 0 then (-2 : Int32) else nI (K 43 0 + 1)) else (-5 : Int32)
def vd_maK (K : KT) (o : Nat) : KT :=
  let K1 := vd_mix K o (vd_base K o)
  if vd_mask K o (vd_base K o) = 0 then (if 30 ≤ K 43 0 then K1 else vd_mv (vd_mkK K1 2 (vd_here K) o) (K 43 0 + 1))
  else vd_st (vd_st (vd_fl (vd_fl K1 1 0 16 (fun b => K1 2 (0 + b))) 0 0 16 (fun b => K1 2 (0 + b))) 41 0 o) 42 0 (vd_mask K o (vd_base K o))
def vd_meR (K : KT) (x : Int32) : Int32 :=
  if vd_there K x = false ∨ vd_here K = 0 ∨ K 41 0 ≠ 0 then (-1 : Int32) else if vd_tidy K = false then (-4 : Int32)
  else if (K 7 (vd_here K)).testBit (K 3 x.toNatClampNeg) = true then nI 0
  else if (K 7 (K 3 x.toNatClampNeg)).testBit (vd_here K) = true then nI (K 3 x.toNatClampNeg) else vd_maR K (K 3 x.toNatClampNeg)
def vd_meK (K : KT) (x : Int32) : KT :=
  if vd_there K x = false ∨ vd_here K = 0 ∨ K 41 0 ≠ 0 then K else if vd_tidy K = false then K
  else if (K 7 (vd_here K)).testBit (K 3 x.toNatClampNeg) = true then K
  else if (K 7 (K 3 x.toNatClampNeg)).testBit (vd_here K) = true then vd_mv K (K 3 x.toNatClampNeg) else vd_maK K (K 3 x.toNatClampNeg)
def vd_piR (K : KT) (x : Int32) : Int32 :=
  if vd_hol K x = false ∨ vd_here K = 0 ∨ K 41 0 ≠ 0 then (-1 : Int32) else if vd_tidy K = false then (-4 : Int32)
  else if vd_mask K x.toNatClampNeg (K 5 x.toNatClampNeg) ≠ 0 then (-5 : Int32)
  else if vd_ash (vd_mix K x.toNatClampNeg (K 5 x.toNatClampNeg)) 2 = true then (-3 : Int32) else if 30 ≤ K 43 0 then (-2 : Int32) else nI (K 43 0 + 1)
def vd_piK (K : KT) (x : Int32) : KT :=
  if vd_hol K x = false ∨ vd_here K = 0 ∨ K 41 0 ≠ 0 then K else if vd_tidy K = false then K
  else if vd_mask K x.toNatClampNeg (K 5 x.toNatClampNeg) ≠ 0 then vd_mix K x.toNatClampNeg (K 5 x.toNatClampNeg)
  else if vd_ash (vd_mix K x.toNatClampNeg (K 5 x.toNatClampNeg)) 2 = true then vd_mix K x.toNatClampNeg (K 5 x.toNatClampNeg) else if 30 ≤ K 43 0 then vd_mix K x.toNatClampNeg (K 5 x.toNatClampNeg)
  else vd_mv (vd_mkK (vd_mix K x.toNatClampNeg (K 5 x.toNatClampNeg)) 2 (vd_here K) 0) (K 43 0 + 1)
def vd_need (K : KT) : Nat → Nat
  | 0 => K 7 (K 41 0)
  | n + 1 => vd_need K n ||| K 7 (K 3 n)
def vd_swK (K : KT) : KT := vd_bks (vd_koK K (vd_need K 6)) 1 0 16
theorem vd_there_t {K : KT} {x : Int32} (h : vd_there K x = true) : ∃ c : Nat, 0 ≤ c ∧ c ≤ 5 ∧ x = nI c ∧ K 3 c ≠ 0 := by
  unfold vd_there at h
  rw [Bool.and_eq_true] at h
  obtain ⟨c, h1, h2, rfl⟩ := vd_in_t h.1
  rw [nI_clamp (by omega)] at h
  exact ⟨c, h1, h2, rfl, by simpa using h.2⟩
theorem vd_pow64 {y : Nat} (h : y < 64) : 2 ^ y < 2 ^ 64 := Nat.pow_lt_pow_right (by decide) h
theorem vd_or64 {x y : Nat} (hx : x ≤ 18446744073709551615) (hy : y < 2 ^ 64) : x ||| y ≤ 18446744073709551615 :=
  Nat.le_of_lt_succ (Nat.or_lt_two_pow (n := 64) (Nat.lt_succ_of_le hx) hy)
theorem vd_lshl : ∀ y, y < 64 → lN 1 <<< ((nI y).toInt64 &&& 63) = lN (2 ^ y) := by decide +kernel
theorem vd_lorE {a b : Nat} (ha : a < 2 ^ 64) (hb : b < 2 ^ 64) : lN a ||| lN b = lN (a ||| b) := by
  apply Int64.toBitVec_inj.1
  show BitVec.ofNat 64 a ||| BitVec.ofNat 64 b = BitVec.ofNat 64 (a ||| b)
  apply BitVec.eq_of_getLsbD_eq
  intro i hi
  simp [hi]
section VDS
variable {p : Program} {l : Launch} {e : Env} {R : Room} {s : State} {m : MethodId} {args : Array Value} {below : List Frame} {meth : Method} {c : Code} {H : Heap} {locs : List Loc} {Q : State → Prop}
variable {cells slots : Nat} {cc : ByteArray} {pc : Nat} {ls : Array Slot} {rest : List Value}
theorem vd_lor (hx : p.tables.exec = Jvm.exec) (hb : c.code = cc) {x y : Nat} (h1 : x < 2 ^ 64) (h2 : y < 2 ^ 64) (hdg : decode cc pc = .ok (.lor, 1)) (k : W p l e R s m args below meth c H locs cells slots Q (F0 m (pc + 1) ls (.long (lN (x ||| y)) :: rest))) : W p l e R s m args below meth c H locs cells slots Q (F0 m pc ls (.long (lN y) :: .long (lN x) :: rest)) := lv_lor hx hb hdg (by rw [vd_lorE h1 h2]; exact k)
theorem vd_iclr (hx : p.tables.exec = Jvm.exec) (hb : c.code = cc) {x f : Nat} (h1 : x ≤ 65535) (h2 : f < 16) (hdg : decode cc pc = .ok (.iand, 1)) (k : W p l e R s m args below meth c H locs cells slots Q (F0 m (pc + 1) ls (.int (nI (vd_clr x f)) :: rest))) : W p l e R s m args below meth c H locs cells slots Q (F0 m pc ls (.int (nI (2 ^ f) ^^^ (-1 : Int32)) :: .int (nI x) :: rest)) := lv_iand hx hb hdg (by rw [vd_clrI h1 h2]; exact k)
end VDS
theorem vd_sw2 (x : Int32) : (x.toInt < 0 ∨ 1 < x.toInt) ∨ x = nI 0 ∨ x = nI 1 := by
  by_cases h1 : x.toInt < 0
  · exact Or.inl (Or.inl h1)
  · by_cases h2 : 1 < x.toInt
    · exact Or.inl (Or.inr h2)
    · obtain ⟨c, _, hc, rfl⟩ := vd_ofI (lo := 0) (hi := 1) (x := x) (by omega) (by omega)
      rcases (show c = 0 ∨ c = 1 by omega) with rfl | rfl
      · exact Or.inr (Or.inl rfl)
      · exact Or.inr (Or.inr rfl)
theorem vd_sw10 (x : Int32) : (x.toInt < 0 ∨ 9 < x.toInt) ∨ x = nI 0 ∨ x = nI 1 ∨ x = nI 2 ∨ x = nI 3 ∨ x = nI 4 ∨ x = nI 5 ∨ x = nI 6 ∨ x = nI 7 ∨ x = nI 8 ∨ x = nI 9 := by
  by_cases h1 : x.toInt < 0
  · exact Or.inl (Or.inl h1)
  · by_cases h2 : 9 < x.toInt
    · exact Or.inl (Or.inr h2)
    · obtain ⟨c, _, hc, rfl⟩ := vd_ofI (lo := 0) (hi := 9) (x := x) (by omega) (by omega)
      refine Or.inr ?_
      rcases (show c = 0 ∨ c = 1 ∨ c = 2 ∨ c = 3 ∨ c = 4 ∨ c = 5 ∨ c = 6 ∨ c = 7 ∨ c = 8 ∨ c = 9 by omega) with rfl | rfl | rfl | rfl | rfl | rfl | rfl | rfl | rfl | rfl <;> simp
/-- count: which number, for the class and for the reference -/
def vd_ct (n : Nat → Nat) (x : Int32) : Int32 := if vd_in 0 9 x = true then nI (n x.toNatClampNeg) else (-1 : Int32)
theorem vd_ct_o {n : Nat → Nat} {x : Int32} (h : x.toInt < 0 ∨ 9 < x.toInt) : (-1 : Int32) = vd_ct n x := by
  unfold vd_ct
  rcases h with h | h
  · rw [vd_in_l (by omega)]
    rfl
  · rw [vd_in_h (by omega)]
    rfl
theorem vd_ct_i {n : Nat → Nat} {c : Nat} (h : c ≤ 9) : nI (n c) = vd_ct n (nI c) := by
  unfold vd_ct
  rw [vd_in_n (Nat.zero_le _) h (by decide), if_pos rfl, nI_clamp (by omega)]
def vd_ctN (K : KT) : Nat → Nat
  | 0 => vd_bsz K 157
  | 1 => vd_rsz K 11 45
  | 2 => vd_rsz K 13 46
  | 3 => vd_pc 32 (K 44 0)
  | 4 => K 43 0
  | 5 => K 40 0
  | 6 => vd_here K
  | 7 => K 41 0
  | 8 => vd_pc 32 (K 42 0)
  | _ => vd_un K
def vd_dif (K : KT) (a b : Nat) : Nat := vd_cn (fun f => vd_cnt K a f != vd_cnt K b f) 16
/-! the reference's operations -/
def vd_cmRM (K : KT) : Int32 := if vd_clM K ≠ 0 then (-5 : Int32) else if K 49 0 = 0 ∧ vd_same K 32 (vd_hereM K) = true then (-3 : Int32) else if K 47 0 = 30 then (-2 : Int32) else nI (K 47 0 + 1)
def vd_cmKM (K : KT) : KT := if vd_clM K ≠ 0 then K else if K 49 0 = 0 ∧ vd_same K 32 (vd_hereM K) = true then K else if K 47 0 = 30 then K else vd_mkM (vd_st K 49 0 0) 32 (if vd_hereM K ≠ 0 then vd_hereM K else K 49 0) (if vd_hereM K ≠ 0 then K 49 0 else 0)
def vd_thM (K : KT) (x : Int32) : Bool := vd_in 0 5 x && (K 18 x.toNatClampNeg != 0)
def vd_tuRM (K : KT) (x : Int32) : Int32 := if vd_thM K x = false ∨ K 49 0 ≠ 0 then (-1 : Int32) else if vd_tidyM K = false then (-4 : Int32) else nI (K 18 x.toNatClampNeg)
def vd_tuKM (K : KT) (x : Int32) : KT := if vd_thM K x = false ∨ K 49 0 ≠ 0 then K else if vd_tidyM K = false then K else vd_shw (vd_st K 48 0 x.toNatClampNeg) (K 18 x.toNatClampNeg)
def vd_xn (K : KT) (x y z : Nat) : Nat := vd_cn (fun f => vd_xcl K x y z f) 16
def vd_meK2 (K : KT) (c : Nat) : KT :=
  let K1 := vd_shK K (vd_hereM K) c
  let b := vd_shr K (vd_hereM K) c
  if b = c then K1 else if b = vd_hereM K1 then vd_shw (vd_st K1 18 (K1 48 0) c) c else
  let K2 := vd_mxl K1 (vd_hereM K1) c b 0 16
  if vd_xn K1 (vd_hereM K1) c b = 0 then (if K2 47 0 = 30 then K2 else vd_shw (vd_mkM K2 33 (vd_hereM K2) c) (vd_hereM (vd_mkM K2 33 (vd_hereM K2) c)))
  else vd_st (vd_shw (vd_mxl K2 (vd_hereM K2) c b 1 16) 33) 49 0 c
def vd_meR2 (K : KT) (c : Nat) : Int32 :=
  let K1 := vd_shK K (vd_hereM K) c
  let b := vd_shr K (vd_hereM K) c
  if b = c then nI 0 else if b = vd_hereM K1 then nI c else
  let K2 := vd_mxl K1 (vd_hereM K1) c b 0 16
  if vd_xn K1 (vd_hereM K1) c b = 0 then (if K2 47 0 = 30 then (-2 : Int32) else nI (vd_hereM (vd_shw (vd_mkM K2 33 (vd_hereM K2) c) (vd_hereM (vd_mkM K2 33 (vd_hereM K2) c)))))
  else (-5 : Int32)
def vd_meRM (K : KT) (x : Int32) : Int32 := if vd_thM K x = false ∨ vd_hereM K = 0 ∨ K 49 0 ≠ 0 then (-1 : Int32) else if vd_tidyM K = false then (-4 : Int32) else vd_meR2 K (K 18 x.toNatClampNeg)
def vd_meKM (K : KT) (x : Int32) : KT := if vd_thM K x = false ∨ vd_hereM K = 0 ∨ K 49 0 ≠ 0 then K else if vd_tidyM K = false then K else vd_meK2 K (K 18 x.toNatClampNeg)
def vd_piK2 (K : KT) (c : Nat) : KT :=
  let K1 := vd_mxl K (vd_hereM K) c (K 16 c) 0 16
  if vd_xn K (vd_hereM K) c (K 16 c) ≠ 0 then K1 else if vd_same K1 33 (vd_hereM K1) = true then K1 else if K1 47 0 = 30 then K1 else
  vd_shw (vd_mkM K1 33 (vd_hereM K1) 0) (vd_hereM (vd_mkM K1 33 (vd_hereM K1) 0))
def vd_piR2 (K : KT) (c : Nat) : Int32 :=
  let K1 := vd_mxl K (vd_hereM K) c (K 16 c) 0 16
  if vd_xn K (vd_hereM K) c (K 16 c) ≠ 0 then (-5 : Int32) else if vd_same K1 33 (vd_hereM K1) = true then (-3 : Int32) else if K1 47 0 = 30 then (-2 : Int32) else
  nI (vd_hereM (vd_shw (vd_mkM K1 33 (vd_hereM K1) 0) (vd_hereM (vd_mkM K1 33 (vd_hereM K1) 0))))
def vd_piRM (K : KT) (x : Int32) : Int32 := if vd_stoM K x = false ∨ vd_hereM K = 0 ∨ K 49 0 ≠ 0 then (-1 : Int32) else if vd_tidyM K = false then (-4 : Int32) else vd_piR2 K x.toNatClampNeg
def vd_piKM (K : KT) (x : Int32) : KT := if vd_stoM K x = false ∨ vd_hereM K = 0 ∨ K 49 0 ≠ 0 then K else if vd_tidyM K = false then K else vd_piK2 K x.toNatClampNeg
def vd_obM (K : KT) : Nat := vd_c0 K + vd_c1 K + vd_c2 K + vd_c3 K
def vd_ctM (K : KT) : Nat → Nat
  | 0 => vd_c0 K
  | 1 => vd_c1 K
  | 2 => vd_c2 K
  | 3 => vd_c3 K
  | 4 => K 47 0
  | 5 => K 48 0
  | 6 => vd_hereM K
  | 7 => K 49 0
  | 8 => vd_clM K
  | _ => vd_chg K
/-- sweep: the marked ones of a run of branches -/
def vd_or2 (K : KT) : Nat → KT
  | 0 => K
  | k + 1 => if K 21 (k + 1) ≠ 0 then vd_st (vd_or2 K k) 22 (k + 1) 1 else vd_or2 K k
theorem vd_or2_s (K : KT) (k : Nat) : vd_or2 K (k + 1) = if K 21 (k + 1) ≠ 0 then vd_st (vd_or2 K k) 22 (k + 1) 1 else vd_or2 K k := rfl
def vd_swb (K : KT) (b : Nat) : Nat := if b < 6 then K 18 b else K 49 0
def vd_sw1 (K : KT) : Nat → KT
  | 0 => K
  | b + 1 => vd_or2 (vd_mar (vd_sw1 K b) (vd_swb K b)) 30
theorem vd_sw1_s (K : KT) (b : Nat) : vd_sw1 K (b + 1) = vd_or2 (vd_mar (vd_sw1 K b) (vd_swb K b)) 30 := rfl
def vd_bl3 (K : KT) (k : Nat) : Nat → KT
  | 0 => K
  | f + 1 => if K 15 k ≠ 0 then vd_st (vd_bl3 K k f) 20 (K 14 (16 * k + f)) 1 else vd_bl3 K k f
theorem vd_bl3_s (K : KT) (k f : Nat) : vd_bl3 K k (f + 1) = if K 15 k ≠ 0 then vd_st (vd_bl3 K k f) 20 (K 14 (16 * k + f)) 1 else vd_bl3 K k f := rfl
def vd_sw3 (K : KT) : Nat → KT
  | 0 => K
  | k + 1 => vd_bl3 (vd_st (vd_sw3 K k) 15 (k + 1) (K 22 (k + 1))) (k + 1) 16
theorem vd_sw3_s (K : KT) (k : Nat) : vd_sw3 K (k + 1) = vd_bl3 (vd_st (vd_sw3 K k) 15 (k + 1) (K 22 (k + 1))) (k + 1) 16 := rfl
def vd_sw4 (K : KT) : Nat → KT
  | 0 => K
  | f + 1 => vd_st (vd_sw4 K f) 20 (K 14 (512 + f)) 1
theorem vd_sw4_s (K : KT) (f : Nat) : vd_sw4 K (f + 1) = vd_st (vd_sw4 K f) 20 (K 14 (512 + f)) 1 := rfl
def vd_swKM (K : KT) : KT := vd_st (vd_sw4 (vd_sw3 (vd_fl (vd_sw1 (vd_fl K 22 0 31 (fun _ => 0)) 7) 20 0 10000 (fun _ => 0)) 30) 16) 20 0 0
theorem vd_mk1_o (K : KT) (j : Nat) {a : Nat} (h : a ≠ 21) : vd_mk1 K j a = K a := by
  unfold vd_mk1
  split
  · rw [vd_st_o h, vd_st_o h]
  · rfl
theorem vd_mkd_o {a : Nat} (h : a ≠ 21) : ∀ (j : Nat) (K : KT), vd_mkd j K a = K a
  | 0, K => rfl
  | j + 1, K => by
    rw [vd_mkd_s]
    rw [vd_mkd_o h j, vd_mk1_o _ _ h]
theorem vd_mar_o (K : KT) (c : Nat) {a : Nat} (h : a ≠ 21) : vd_mar K c a = K a := by
  unfold vd_mar vd_mk0
  rw [vd_st_o h, vd_mkd_o h, vd_fl_o h]
theorem vd_shK_o (K : KT) (x y : Nat) {a : Nat} (h : a ≠ 21) (h2 : a ≠ 22) : vd_shK K x y a = K a := by
  unfold vd_shK
  rw [vd_mar_o _ _ h, vd_fl_o h2, vd_mar_o _ _ h]
theorem vd_mxl_o (K : KT) (x y z w : Nat) {a : Nat} (h : a ≠ 14) (h2 : a ≠ 19) : ∀ i, vd_mxl K x y z w i a = K a
  | 0 => rfl
  | i + 1 => by
    rw [vd_mxl_s]
    split
    · rw [vd_st_o h2, vd_st_o h, vd_mxl_o K x y z w h h2 i]
    · rw [vd_st_o h, vd_mxl_o K x y z w h h2 i]
theorem vd_or2_o (K : KT) {a : Nat} (h : a ≠ 22) : ∀ k, vd_or2 K k a = K a
  | 0 => rfl
  | k + 1 => by
    rw [vd_or2_s]
    split
    · rw [vd_st_o h, vd_or2_o K h k]
    · rw [vd_or2_o K h k]
theorem vd_sw1_o (K : KT) {a : Nat} (h : a ≠ 22) (h2 : a ≠ 21) : ∀ k, vd_sw1 K k a = K a
  | 0 => rfl
  | k + 1 => by
    rw [vd_sw1_s]
    rw [vd_or2_o _ h, vd_mar_o _ _ h2, vd_sw1_o K h h2 k]
theorem vd_bl3_o (K : KT) (k : Nat) {a : Nat} (h : a ≠ 20) : ∀ f, vd_bl3 K k f a = K a
  | 0 => rfl
  | f + 1 => by
    rw [vd_bl3_s]
    split
    · rw [vd_st_o h, vd_bl3_o K k h f]
    · rw [vd_bl3_o K k h f]
theorem vd_sw3_o (K : KT) {a : Nat} (h : a ≠ 20) (h2 : a ≠ 15) : ∀ k, vd_sw3 K k a = K a
  | 0 => rfl
  | k + 1 => by
    rw [vd_sw3_s]
    rw [vd_bl3_o _ _ h, vd_st_o h2, vd_sw3_o K h h2 k]
theorem vd_sw4_o (K : KT) {a : Nat} (h : a ≠ 20) : ∀ f, vd_sw4 K f a = K a
  | 0 => rfl
  | f + 1 => by
    rw [vd_sw4_s]
    rw [vd_st_o h, vd_sw4_o K h f]
theorem vd_frs0 {t q : Nat} {X : Prop} {P : Nat → Prop} (h : t ≠ 0 ↔ (X ∧ ∀ b, 1 ≤ b → b < q + 1 → ¬ P b)) (hp : P (q + 1)) : (0 : Nat) ≠ 0 ↔ (X ∧ ∀ b, 1 ≤ b → b < q + 1 + 1 → ¬ P b) :=
  ⟨fun z => absurd rfl z, fun z => absurd hp (z.2 (q + 1) (by omega) (by omega))⟩
theorem vd_frs1 {t q : Nat} {X : Prop} {P : Nat → Prop} (h : t ≠ 0 ↔ (X ∧ ∀ b, 1 ≤ b → b < q + 1 → ¬ P b)) (hp : ¬ P (q + 1)) : t ≠ 0 ↔ (X ∧ ∀ b, 1 ≤ b → b < q + 1 + 1 → ¬ P b) := by
  rw [h]
  refine ⟨fun z => ⟨z.1, fun b h1 h2 => ?_⟩, fun z => ⟨z.1, fun b h1 h2 => z.2 b h1 (by omega)⟩⟩
  by_cases e : b = q + 1
  · subst e
    exact hp
  · exact z.2 b h1 (by omega)
theorem vd_frt0 {t u : Nat} {X : Prop} {P : Nat → Prop} (h : t ≠ 0 ↔ (X ∧ ∀ b, b < u → ¬ P b)) (hp : P u) : (0 : Nat) ≠ 0 ↔ (X ∧ ∀ b, b < u + 1 → ¬ P b) :=
  ⟨fun z => absurd rfl z, fun z => absurd hp (z.2 u (by omega))⟩
theorem vd_frt1 {t u : Nat} {X : Prop} {P : Nat → Prop} (h : t ≠ 0 ↔ (X ∧ ∀ b, b < u → ¬ P b)) (hp : ¬ P u) : t ≠ 0 ↔ (X ∧ ∀ b, b < u + 1 → ¬ P b) := by
  rw [h]
  refine ⟨fun z => ⟨z.1, fun b h2 => ?_⟩, fun z => ⟨z.1, fun b h2 => z.2 b (by omega)⟩⟩
  by_cases e : b = u
  · subst e
    exact hp
  · exact z.2 b (by omega)
theorem vd_frt2 {t u : Nat} {X : Prop} {P : Nat → Prop} (h : t ≠ 0 ↔ (X ∧ ∀ b, b < u → ¬ P b)) (hp : t = 0) : t ≠ 0 ↔ (X ∧ ∀ b, b < u + 1 → ¬ P b) :=
  ⟨fun z => absurd hp z, fun z => h.mpr ⟨z.1, fun b h2 => z.2 b (by omega)⟩⟩
/-! the reference's merge and pick, case by case -/
theorem vd_me_a {K K1 : KT} {c : Nat} (h1 : vd_shr K (vd_hereM K) c = c) (e1 : K1 = vd_shK K (vd_hereM K) c) : K1 = vd_meK2 K c ∧ nI 0 = vd_meR2 K c := by
  unfold vd_meK2 vd_meR2
  rw [if_pos h1, if_pos h1]
  exact ⟨e1, rfl⟩
theorem vd_me_b {K K1 K2 : KT} {c : Nat} (h1 : ¬ vd_shr K (vd_hereM K) c = c) (e1 : K1 = vd_shK K (vd_hereM K) c) (h2 : vd_shr K (vd_hereM K) c = vd_hereM K1) (e2 : K2 = vd_shw (vd_st K1 18 (K1 48 0) c) c) : K2 = vd_meK2 K c ∧ nI c = vd_meR2 K c := by
  subst e1
  unfold vd_meK2 vd_meR2
  rw [if_neg h1, if_neg h1]
  simp only [if_pos h2]
  exact ⟨e2, trivial⟩
theorem vd_me_c {K K1 K2 : KT} {c : Nat} (h1 : ¬ vd_shr K (vd_hereM K) c = c) (e1 : K1 = vd_shK K (vd_hereM K) c) (h2 : ¬ vd_shr K (vd_hereM K) c = vd_hereM K1) (h3 : vd_xn K1 (vd_hereM K1) c (vd_shr K (vd_hereM K) c) = 0) (e2 : K2 = vd_mxl K1 (vd_hereM K1) c (vd_shr K (vd_hereM K) c) 0 16) (h4 : K2 47 0 = 30) : K2 = vd_meK2 K c ∧ (-2 : Int32) = vd_meR2 K c := by
  subst e2 e1
  unfold vd_meK2 vd_meR2
  rw [if_neg h1, if_neg h1]
  simp only [if_neg h2, if_pos h3, if_pos h4]
  exact ⟨trivial, trivial⟩
theorem vd_me_d {K K1 K2 K3 K4 : KT} {c : Nat} (h1 : ¬ vd_shr K (vd_hereM K) c = c) (e1 : K1 = vd_shK K (vd_hereM K) c) (h2 : ¬ vd_shr K (vd_hereM K) c = vd_hereM K1) (h3 : vd_xn K1 (vd_hereM K1) c (vd_shr K (vd_hereM K) c) = 0) (e2 : K2 = vd_mxl K1 (vd_hereM K1) c (vd_shr K (vd_hereM K) c) 0 16) (h4 : ¬ K2 47 0 = 30) (e3 : K3 = vd_mkM K2 33 (vd_hereM K2) c) (e4 : K4 = vd_shw K3 (vd_hereM K3)) : K4 = vd_meK2 K c ∧ nI (vd_hereM K4) = vd_meR2 K c := by
  subst e4 e3 e2 e1
  unfold vd_meK2 vd_meR2
  rw [if_neg h1, if_neg h1]
  simp only [if_neg h2, if_pos h3, if_neg h4]
  exact ⟨trivial, trivial⟩
theorem vd_me_e {K K1 K2 K4 K5 K6 : KT} {c : Nat} (h1 : ¬ vd_shr K (vd_hereM K) c = c) (e1 : K1 = vd_shK K (vd_hereM K) c) (h2 : ¬ vd_shr K (vd_hereM K) c = vd_hereM K1) (h3 : ¬ vd_xn K1 (vd_hereM K1) c (vd_shr K (vd_hereM K) c) = 0) (e2 : K2 = vd_mxl K1 (vd_hereM K1) c (vd_shr K (vd_hereM K) c) 0 16) (e4 : K4 = vd_mxl K2 (vd_hereM K2) c (vd_shr K (vd_hereM K) c) 1 16) (e5 : K5 = vd_shw K4 33) (e6 : K6 = vd_st K5 49 0 c) : K6 = vd_meK2 K c ∧ (-5 : Int32) = vd_meR2 K c := by
  subst e6 e5 e4 e2 e1
  unfold vd_meK2 vd_meR2
  rw [if_neg h1, if_neg h1]
  simp only [if_neg h2, if_neg h3]
  exact ⟨trivial, trivial⟩
theorem vd_pi_a {K K1 : KT} {c : Nat} (e1 : K1 = vd_mxl K (vd_hereM K) c (K 16 c) 0 16) (h1 : vd_xn K (vd_hereM K) c (K 16 c) ≠ 0) : K1 = vd_piK2 K c ∧ (-5 : Int32) = vd_piR2 K c := by
  unfold vd_piK2 vd_piR2
  rw [if_pos h1, if_pos h1]
  exact ⟨e1, rfl⟩
theorem vd_pi_b {K K1 : KT} {c : Nat} (e1 : K1 = vd_mxl K (vd_hereM K) c (K 16 c) 0 16) (h1 : vd_xn K (vd_hereM K) c (K 16 c) = 0) (h2 : vd_same K1 33 (vd_hereM K1) = true) : K1 = vd_piK2 K c ∧ (-3 : Int32) = vd_piR2 K c := by
  subst e1
  have h1' : ¬ vd_xn K (vd_hereM K) c (K 16 c) ≠ 0 := fun z => z h1
  unfold vd_piK2 vd_piR2
  rw [if_neg h1', if_neg h1']
  simp only [if_pos h2]
  exact ⟨trivial, trivial⟩
theorem vd_pi_c {K K1 : KT} {c : Nat} (e1 : K1 = vd_mxl K (vd_hereM K) c (K 16 c) 0 16) (h1 : vd_xn K (vd_hereM K) c (K 16 c) = 0) (h2 : vd_same K1 33 (vd_hereM K1) = false) (h3 : K1 47 0 = 30) : K1 = vd_piK2 K c ∧ (-2 : Int32) = vd_piR2 K c := by
  subst e1
  have h1' : ¬ vd_xn K (vd_hereM K) c (K 16 c) ≠ 0 := fun z => z h1
  unfold vd_piK2 vd_piR2
  rw [if_neg h1', if_neg h1']
  simp only [if_neg (by rw [h2]; decide : ¬ vd_same (vd_mxl K (vd_hereM K) c (K 16 c) 0 16) 33 (vd_hereM (vd_mxl K (vd_hereM K) c (K 16 c) 0 16)) = true), if_pos h3]
  exact ⟨trivial, trivial⟩
theorem vd_pi_d {K K1 K2 K3 : KT} {c : Nat} (e1 : K1 = vd_mxl K (vd_hereM K) c (K 16 c) 0 16) (h1 : vd_xn K (vd_hereM K) c (K 16 c) = 0) (h2 : vd_same K1 33 (vd_hereM K1) = false) (h3 : ¬ K1 47 0 = 30) (e2 : K2 = vd_mkM K1 33 (vd_hereM K1) 0) (e3 : K3 = vd_shw K2 (vd_hereM K2)) : K3 = vd_piK2 K c ∧ nI (vd_hereM K3) = vd_piR2 K c := by
  subst e3 e2 e1
  have h1' : ¬ vd_xn K (vd_hereM K) c (K 16 c) ≠ 0 := fun z => z h1
  unfold vd_piK2 vd_piR2
  rw [if_neg h1', if_neg h1']
  simp only [if_neg (by rw [h2]; decide : ¬ vd_same (vd_mxl K (vd_hereM K) c (K 16 c) 0 16) 33 (vd_hereM (vd_mxl K (vd_hereM K) c (K 16 c) 0 16)) = true), if_neg h3]
  exact ⟨trivial, trivial⟩
end
section
/-! PURE: counting -/
theorem vd_cn_s (P : Nat → Bool) (n : Nat) : vd_cn P (n + 1) = vd_cn P n + (P n).toNat := rfl
theorem vd_cn_congr {P P' : Nat → Bool} : ∀ {n : Nat}, (∀ i, i < n → P i = P' i) → vd_cn P n = vd_cn P' n
  | 0, _ => rfl
  | n + 1, h => by
    rw [vd_cn_s, vd_cn_s, vd_cn_congr (fun i hi => h i (by omega)), h n (by omega)]
theorem vd_cn_zero {P : Nat → Bool} : ∀ {n : Nat}, (∀ i, i < n → P i = false) → vd_cn P n = 0
  | 0, _ => rfl
  | n + 1, h => by
    rw [vd_cn_s, vd_cn_zero (fun i hi => h i (by omega)), h n (by omega)]
    rfl
theorem vd_cn_add (P : Nat → Bool) (m : Nat) : ∀ n, vd_cn P (m + n) = vd_cn P m + vd_cn (fun i => P (m + i)) n
  | 0 => rfl
  | n + 1 => by
    rw [← Nat.add_assoc, vd_cn_s, vd_cn_s, vd_cn_add P m n, Nat.add_assoc]
theorem vd_cn_0 {P : Nat → Bool} {n : Nat} (h : vd_cn P n = 0) : ∀ i, i < n → P i = false := by
  induction n with
  | zero => intro i hi; omega
  | succ n ih =>
    intro i hi
    rw [vd_cn_s] at h
    by_cases e : i = n
    · subst e
      cases hp : P i with
      | false => rfl
      | true => rw [hp] at h; simp at h
    · exact ih (by omega) i (by omega)
/-- one more place: the count grows by one -/
theorem vd_cn_one {P P' : Nat → Bool} {r : Nat} (hr : P r = false) (hr' : P' r = true) (ho : ∀ i, i ≠ r → P i = P' i) : ∀ {n : Nat}, r < n → vd_cn P' n = vd_cn P n + 1
  | 0, h => absurd h (by omega)
  | n + 1, h => by
    rw [vd_cn_s, vd_cn_s]
    by_cases e : r = n
    · subst e
      rw [hr, hr', vd_cn_congr (P := P') (P' := P) (fun i hi => (ho i (by omega)).symm)]
      rfl
    · rw [vd_cn_one hr hr' ho (by omega), ho n (fun z => e z.symm)]
      omega
/-- first occurrences of labels, counted, are the labels that occur -/
theorem vd_fresh {act : Nat → Bool} {g : Nat → Nat} {L : Nat} (n : Nat) (hg : ∀ t, t < n → act t = true → 1 ≤ g t ∧ g t ≤ L) :
    vd_cn (fun t => decide (act t = true ∧ ∀ u, u < t → ¬ (act u = true ∧ g u = g t))) n = vd_cn (fun r => decide (∃ t, t < n ∧ act t = true ∧ g t = r + 1)) L := by
  induction n with
  | zero =>
    symm
    exact vd_cn_zero (fun i _ => decide_eq_false (by rintro ⟨t, h, -⟩; omega))
  | succ n ih =>
    have ih := ih (fun t ht => hg t (by omega))
    rw [vd_cn_s, ih]
    by_cases hf : act n = true ∧ ∀ u, u < n → ¬ (act u = true ∧ g u = g n)
    · rw [decide_eq_true hf]
      obtain ⟨h1, h2⟩ := hg n (by omega) hf.1
      have e1 : g n - 1 + 1 = g n := by omega
      symm
      refine vd_cn_one (r := g n - 1) (decide_eq_false ?_) (decide_eq_true ⟨n, by omega, hf.1, e1.symm⟩) (fun i hi => ?_) (by omega)
      · rintro ⟨t, ht, ha, hgt⟩
        exact hf.2 t ht ⟨ha, by omega⟩
      · refine decide_eq_decide.mpr ⟨fun ⟨t, ht, ha, hgt⟩ => ⟨t, by omega, ha, hgt⟩, fun ⟨t, ht, ha, hgt⟩ => ?_⟩
        by_cases e : t = n
        · subst e
          exact absurd (show i = g t - 1 by omega) hi
        · exact ⟨t, by omega, ha, hgt⟩
    · rw [decide_eq_false hf]
      show _ + 0 = _
      rw [Nat.add_zero]
      refine vd_cn_congr (fun r _ => decide_eq_decide.mpr ⟨fun ⟨t, ht, ha, hgt⟩ => ⟨t, by omega, ha, hgt⟩, fun ⟨t, ht, ha, hgt⟩ => ?_⟩)
      by_cases e : t = n
      · subst e
        have hne : ∃ u, u < t ∧ act u = true ∧ g u = g t := Classical.byContradiction fun z => hf ⟨ha, fun u hu hh => z ⟨u, hu, hh⟩⟩
        obtain ⟨u, hu, hau, hgu⟩ := hne
        exact ⟨u, hu, hau, by omega⟩
      · exact ⟨t, by omega, ha, hgt⟩
theorem vd_fresh2 {act F R : Nat → Bool} {g : Nat → Nat} {L : Nat} (n : Nat) (hg : ∀ t, t < n → act t = true → 1 ≤ g t ∧ g t ≤ L) (hF : ∀ t, t < n → (F t = true ↔ (act t = true ∧ ∀ u, u < t → ¬ (act u = true ∧ g u = g t)))) (hR : ∀ r, r < L → (R r = true ↔ ∃ t, t < n ∧ act t = true ∧ g t = r + 1)) : vd_cn F n = vd_cn R L := by
  have h1 : vd_cn F n = vd_cn (fun t => decide (act t = true ∧ ∀ u, u < t → ¬ (act u = true ∧ g u = g t))) n := vd_cn_congr (fun t ht => by
    rw [Bool.eq_iff_iff, hF t ht, decide_eq_true_eq])
  have h2 : vd_cn (fun r => decide (∃ t, t < n ∧ act t = true ∧ g t = r + 1)) L = vd_cn R L := vd_cn_congr (fun r hr => by
    rw [Bool.eq_iff_iff, hR r hr, decide_eq_true_eq])
  rw [h1, vd_fresh n hg, h2]
/-- the bits of n words are the bits of one row -/
theorem vd_bsz_cn (K : KT) : ∀ n, vd_bsz K n = vd_cn (fun x => (K 9 (x / 64)).testBit (x % 64)) (64 * n)
  | 0 => rfl
  | n + 1 => by
    show vd_bsz K n + vd_pc 64 (K 9 n) = _
    rw [show 64 * (n + 1) = 64 * n + 64 by omega, vd_cn_add, vd_bsz_cn K n]
    congr 1
    refine vd_cn_congr (fun i hi => ?_)
    show (K 9 n).testBit i = (K 9 ((64 * n + i) / 64)).testBit ((64 * n + i) % 64)
    rw [show (64 * n + i) / 64 = n by omega, show (64 * n + i) % 64 = i by omega]
end
section
/-! PURE: ancestors. M: how far commits go; an: their bits; p1, p2: parents -/
def vd_An (M : Nat) (an p1 p2 : Nat → Nat) : Prop :=
  an 0 = 0 ∧ ∀ c, 1 ≤ c → c ≤ M → p1 c < c ∧ p2 c < c ∧ an c = 2 ^ c ||| an (p1 c) ||| an (p2 c)
theorem vd_An.bit {M : Nat} {an p1 p2 : Nat → Nat} (h : vd_An M an p1 p2) {c k : Nat} (h1 : 1 ≤ c) (h2 : c ≤ M) : (an c).testBit k = true ↔ (k = c ∨ (an (p1 c)).testBit k = true ∨ (an (p2 c)).testBit k = true) := by
  rw [(h.2 c h1 h2).2.2, Nat.testBit_or, Nat.testBit_or, Nat.testBit_two_pow, Bool.or_eq_true, Bool.or_eq_true, decide_eq_true_eq, or_assoc]
  exact or_congr ⟨fun e => e.symm, fun e => e.symm⟩ Iff.rfl
theorem vd_An.zero {M : Nat} {an p1 p2 : Nat → Nat} (h : vd_An M an p1 p2) {k : Nat} : (an 0).testBit k = false := by
  rw [h.1, Nat.zero_testBit]
/-- an ancestor is not greater, and not 0 -/
theorem vd_An.le {M : Nat} {an p1 p2 : Nat → Nat} (h : vd_An M an p1 p2) : ∀ (c : Nat), c ≤ M → ∀ k, (an c).testBit k = true → 1 ≤ k ∧ k ≤ c := by
  intro c
  induction c using Nat.strongRecOn with
  | ind c ih =>
    intro hc k hk
    by_cases h0 : c = 0
    · subst h0
      rw [h.zero] at hk
      exact absurd hk (by decide)
    · obtain ⟨q1, q2, -⟩ := h.2 c (by omega) hc
      rcases (h.bit (by omega) hc).mp hk with e | e | e
      · omega
      · have := ih _ q1 (by omega) k e
        omega
      · have := ih _ q2 (by omega) k e
        omega
theorem vd_An.self {M : Nat} {an p1 p2 : Nat → Nat} (h : vd_An M an p1 p2) {c : Nat} (h1 : 1 ≤ c) (h2 : c ≤ M) : (an c).testBit c = true := (h.bit h1 h2).mpr (Or.inl rfl)
theorem vd_An.trans {M : Nat} {an p1 p2 : Nat → Nat} (h : vd_An M an p1 p2) : ∀ (c : Nat), c ≤ M → ∀ k, (an c).testBit k = true → ∀ q, (an k).testBit q = true → (an c).testBit q = true := by
  intro c
  induction c using Nat.strongRecOn with
  | ind c ih =>
    intro hc k hk q hq
    by_cases h0 : c = 0
    · subst h0
      rw [h.zero] at hk
      exact absurd hk (by decide)
    · obtain ⟨q1, q2, -⟩ := h.2 c (by omega) hc
      rcases (h.bit (by omega) hc).mp hk with e | e | e
      · subst e
        exact hq
      · exact (h.bit (by omega) hc).mpr (Or.inr (Or.inl (ih _ q1 (by omega) k e q hq)))
      · exact (h.bit (by omega) hc).mpr (Or.inr (Or.inr (ih _ q2 (by omega) k e q hq)))
/-- an ancestor is the commit itself or a parent of a greater ancestor -/
theorem vd_An.step {M : Nat} {an p1 p2 : Nat → Nat} (h : vd_An M an p1 p2) : ∀ (c : Nat), 1 ≤ c → c ≤ M → ∀ k, (an c).testBit k = true → k = c ∨ ∃ q, k < q ∧ (an c).testBit q = true ∧ (p1 q = k ∨ p2 q = k) := by
  intro c
  induction c using Nat.strongRecOn with
  | ind c ih =>
    intro h1 hc k hk
    obtain ⟨q1, q2, -⟩ := h.2 c h1 hc
    have main : ∀ d, d < c → (d = p1 c ∨ d = p2 c) → (an d).testBit k = true → k = c ∨ ∃ q, k < q ∧ (an c).testBit q = true ∧ (p1 q = k ∨ p2 q = k) := by
      intro d hd hp e
      by_cases d0 : d = 0
      · subst d0
        rw [h.zero] at e
        exact absurd e (by decide)
      · rcases ih d hd (by omega) (by omega) k e with e2 | ⟨q, g1, g2, g3⟩
        · subst e2
          refine Or.inr ⟨c, hd, h.self h1 hc, ?_⟩
          rcases hp with z | z
          · exact Or.inl z.symm
          · exact Or.inr z.symm
        · refine Or.inr ⟨q, g1, ?_, g3⟩
          rcases hp with z | z
          · exact (h.bit h1 hc).mpr (Or.inr (Or.inl (z ▸ g2)))
          · exact (h.bit h1 hc).mpr (Or.inr (Or.inr (z ▸ g2)))
    rcases (h.bit h1 hc).mp hk with e | e | e
    · exact Or.inl e
    · exact main _ q1 (Or.inl rfl) e
    · exact main _ q2 (Or.inr rfl) e
theorem vd_topP_congr {P P' : Nat → Bool} : ∀ {n : Nat}, (∀ k, 1 ≤ k → k ≤ n → P k = P' k) → vd_topP P n = vd_topP P' n
  | 0, _ => rfl
  | n + 1, h => by
    rw [vd_topP_s, vd_topP_s, h (n + 1) (by omega) (by omega), vd_topP_congr (fun k h1 h2 => h k h1 (by omega))]
theorem vd_topP_has {P : Nat → Bool} : ∀ {n : Nat}, vd_topP P n ≠ 0 → P (vd_topP P n) = true
  | 0, h => absurd rfl h
  | n + 1, h => by
    rw [vd_topP_s] at h ⊢
    split
    · assumption
    · rename_i hn
      rw [if_neg hn] at h
      exact vd_topP_has h
theorem vd_topP_max {P : Nat → Bool} : ∀ {n k : Nat}, 1 ≤ k → k ≤ n → P k = true → k ≤ vd_topP P n
  | 0, k, h1, h2, _ => by omega
  | n + 1, k, h1, h2, hp => by
    rw [vd_topP_s]
    split
    · exact h2
    · rename_i hn
      by_cases e : k = n + 1
      · subst e
        exact absurd hp hn
      · exact vd_topP_max h1 (by omega) hp
/-- mark's loop: what is marked before place j is looked at -/
def vd_mI (an : Nat → Nat) (c j : Nat) (K : KT) : Prop := ∀ k, 1 ≤ k → k ≤ 30 → (K 21 k ≠ 0 ↔ ((k = c ∧ c ≠ 0) ∨ ∃ q, j < q ∧ (an c).testBit q = true ∧ (K 16 q = k ∨ K 17 q = k)))
theorem vd_mI_bit {M : Nat} {an : Nat → Nat} {K : KT} {c j : Nat} (hA : vd_An M an (K 16) (K 17)) (hM : M ≤ 30) (hc : c ≤ M) (h : vd_mI an c j K) {k : Nat} (hjk : j ≤ k) (h1 : 1 ≤ k) (h2 : k ≤ 30) : K 21 k ≠ 0 ↔ (an c).testBit k = true := by
  rw [h k h1 h2]
  constructor
  · rintro (⟨e, h0⟩ | ⟨q, g1, g2, g3⟩)
    · subst e
      exact hA.self h1 hc
    · have hq := hA.le c hc q g2
      obtain ⟨hp1, hp2, -⟩ := hA.2 q hq.1 (by omega)
      refine hA.trans c hc q g2 k ?_
      rcases g3 with e | e
      · exact (hA.bit hq.1 (by omega)).mpr (Or.inr (Or.inl (by rw [e]; exact hA.self h1 (by omega))))
      · exact (hA.bit hq.1 (by omega)).mpr (Or.inr (Or.inr (by rw [e]; exact hA.self h1 (by omega))))
  · intro hb
    by_cases h0 : c = 0
    · subst h0
      rw [hA.zero] at hb
      exact absurd hb (by decide)
    · rcases hA.step c (by omega) hc k hb with e | ⟨q, g1, g2, g3⟩
      · exact Or.inl ⟨e, h0⟩
      · exact Or.inr ⟨q, by omega, g2, g3⟩
theorem vd_mkd_I {M : Nat} {an : Nat → Nat} {c : Nat} (hM : M ≤ 30) (hc : c ≤ M) : ∀ (j : Nat), j ≤ 30 → ∀ K : KT, vd_An M an (K 16) (K 17) → vd_mI an c j K → vd_mI an c 0 (vd_mkd j K)
  | 0, _, K, _, h => h
  | j + 1, hj, K, hA, h => by
    rw [vd_mkd_s]
    have e16 : vd_mk1 K (j + 1) 16 = K 16 := vd_mk1_o _ _ (by decide)
    have e17 : vd_mk1 K (j + 1) 17 = K 17 := vd_mk1_o _ _ (by decide)
    refine vd_mkd_I hM hc j (by omega) _ (by rw [e16, e17]; exact hA) (fun k h1 h2 => ?_)
    rw [e16, e17]
    have hb := vd_mI_bit hA hM hc h (k := j + 1) (by omega) (by omega) hj
    have hk := h k h1 h2
    unfold vd_mk1
    by_cases hm : K 21 (j + 1) ≠ 0
    · rw [if_pos hm]
      have e2 : vd_st (vd_st K 21 (K 16 (j + 1)) 1) 21 (K 17 (j + 1)) 1 21 k = if k = K 17 (j + 1) then 1 else if k = K 16 (j + 1) then 1 else K 21 k := by
        rw [vd_st_s, vd_st_s]
      rw [e2]
      constructor
      · intro hz
        by_cases z1 : k = K 17 (j + 1)
        · exact Or.inr ⟨j + 1, by omega, hb.mp hm, Or.inr z1.symm⟩
        · rw [if_neg z1] at hz
          by_cases z2 : k = K 16 (j + 1)
          · exact Or.inr ⟨j + 1, by omega, hb.mp hm, Or.inl z2.symm⟩
          · rw [if_neg z2] at hz
            rcases hk.mp hz with g | ⟨q, g1, g2⟩
            · exact Or.inl g
            · exact Or.inr ⟨q, by omega, g2⟩
      · intro hz
        by_cases z1 : k = K 17 (j + 1)
        · rw [if_pos z1]
          decide
        · rw [if_neg z1]
          by_cases z2 : k = K 16 (j + 1)
          · rw [if_pos z2]
            decide
          · rw [if_neg z2]
            refine hk.mpr ?_
            rcases hz with g | ⟨q, g1, g2, g3⟩
            · exact Or.inl g
            · by_cases e : q = j + 1
              · subst e
                rcases g3 with g3 | g3
                · exact absurd g3.symm z2
                · exact absurd g3.symm z1
              · exact Or.inr ⟨q, by omega, g2, g3⟩
    · rw [if_neg hm]
      rw [hk]
      refine or_congr Iff.rfl ⟨fun ⟨q, g1, g2⟩ => ⟨q, by omega, g2⟩, fun ⟨q, g1, g2, g3⟩ => ?_⟩
      by_cases e : q = j + 1
      · subst e
        exact absurd (hb.mpr g2) hm
      · exact ⟨q, by omega, g2, g3⟩
/-- mark marks the ancestors -/
theorem vd_mar_bit {M : Nat} {an : Nat → Nat} {K : KT} {c : Nat} (hA : vd_An M an (K 16) (K 17)) (hM : M ≤ 30) (hc : c ≤ M) {k : Nat} (hk : k ≤ 30) : vd_mar K c 21 k ≠ 0 ↔ (an c).testBit k = true := by
  have e16 : vd_mk0 K c 31 16 = K 16 := vd_fl_o (by decide)
  have e17 : vd_mk0 K c 31 17 = K 17 := vd_fl_o (by decide)
  have h0 : vd_mI an c 30 (vd_mk0 K c 31) := by
    intro k h1 h2
    have e1 : vd_mk0 K c 31 21 k = if k = c ∧ c ≠ 0 then 1 else 0 := by
      unfold vd_mk0
      rw [vd_fl_i]
      show (if 0 ≤ k ∧ k < 0 + 31 then _ else _) = _
      rw [if_pos (by omega)]
      rfl
    rw [e1]
    constructor
    · intro hz
      by_cases z : k = c ∧ c ≠ 0
      · exact Or.inl z
      · rw [if_neg z] at hz
        exact absurd rfl hz
    · rintro (z | ⟨q, g1, g2, -⟩)
      · rw [if_pos z]
        decide
      · have := hA.le c hc q g2
        omega
  have h2 := vd_mkd_I hM hc 30 (by omega) _ (by rw [e16, e17]; exact hA) h0
  have f16 : vd_mkd 30 (vd_mk0 K c 31) 16 = K 16 := by rw [vd_mkd_o (by decide), e16]
  have f17 : vd_mkd 30 (vd_mk0 K c 31) 17 = K 17 := by rw [vd_mkd_o (by decide), e17]
  unfold vd_mar
  rw [vd_st_s]
  show (if k = 0 then 0 else vd_mkd 30 (vd_mk0 K c 31) 21 k) ≠ 0 ↔ _
  by_cases hz : k = 0
  · rw [if_pos hz]
    refine ⟨fun z => absurd rfl z, fun z => ?_⟩
    have := hA.le c hc k z
    omega
  · rw [if_neg hz]
    exact vd_mI_bit (by rw [f16, f17]; exact hA) hM hc h2 (Nat.zero_le k) (by omega) hk
theorem vd_shr_top {M : Nat} {an : Nat → Nat} {K : KT} {a b : Nat} (hA : vd_An M an (K 16) (K 17)) (hM : M ≤ 30) (ha : a ≤ M) (hb : b ≤ M) : vd_shr K a b = vd_top (an a &&& an b) 30 := by
  unfold vd_shr vd_top
  refine vd_topP_congr (fun k h1 h2 => ?_)
  have f16 : vd_fl (vd_mar K a) 22 0 31 (fun k => vd_mar K a 21 k) 16 = K 16 := by rw [vd_fl_o (by decide), vd_mar_o _ _ (by decide)]
  have f17 : vd_fl (vd_mar K a) 22 0 31 (fun k => vd_mar K a 21 k) 17 = K 17 := by rw [vd_fl_o (by decide), vd_mar_o _ _ (by decide)]
  have e1 : vd_shK K a b 21 k ≠ 0 ↔ (an b).testBit k = true := by
    unfold vd_shK
    exact vd_mar_bit (by rw [f16, f17]; exact hA) hM hb h2
  have e2 : vd_shK K a b 22 k ≠ 0 ↔ (an a).testBit k = true := by
    unfold vd_shK
    rw [vd_mar_o _ _ (by decide), vd_fl_i]
    show (if 0 ≤ k ∧ k < 0 + 31 then vd_mar K a 21 (k - 0) else _) ≠ 0 ↔ _
    rw [if_pos (by omega)]
    exact vd_mar_bit hA hM ha h2
  rw [Nat.testBit_and]
  cases h3 : (an a).testBit k with
  | false =>
    have z : vd_shK K a b 22 k = 0 := Classical.byContradiction fun z => absurd (e2.mp z) (by rw [h3]; decide)
    simp [z]
  | true =>
    have z := e2.mpr h3
    cases h4 : (an b).testBit k with
    | false =>
      have z2 : vd_shK K a b 21 k = 0 := Classical.byContradiction fun z => absurd (e1.mp z) (by rw [h4]; decide)
      simp [z2]
    | true =>
      have z2 := e1.mpr h4
      simp [z, z2]
/-- the meeting of a and b is b just where b is an ancestor of a -/
theorem vd_meet_r {M : Nat} {an p1 p2 : Nat → Nat} (hA : vd_An M an p1 p2) (hM : M ≤ 30) {a b : Nat} (ha : a ≤ M) (h1 : 1 ≤ b) (hb : b ≤ M) : vd_top (an a &&& an b) 30 = b ↔ (an a).testBit b = true := by
  constructor
  · intro e
    have h := vd_topP_has (P := fun k => (an a &&& an b).testBit k) (n := 30) (by show vd_top (an a &&& an b) 30 ≠ 0; omega)
    have h2 : (an a &&& an b).testBit (vd_top (an a &&& an b) 30) = true := h
    rw [e, Nat.testBit_and, Bool.and_eq_true] at h2
    exact h2.1
  · intro h
    have h2 : b ≤ vd_top (an a &&& an b) 30 := vd_topP_max h1 (by omega) (by show (an a &&& an b).testBit b = true; rw [Nat.testBit_and, h, hA.self h1 hb]; rfl)
    have h3 := vd_topP_has (P := fun k => (an a &&& an b).testBit k) (n := 30) (by show vd_top (an a &&& an b) 30 ≠ 0; omega)
    have h4 : (an a &&& an b).testBit (vd_top (an a &&& an b) 30) = true := h3
    rw [Nat.testBit_and, Bool.and_eq_true] at h4
    have := hA.le b hb _ h4.2
    omega
theorem vd_meet_l {M : Nat} {an p1 p2 : Nat → Nat} (hA : vd_An M an p1 p2) (hM : M ≤ 30) {a b : Nat} (h1 : 1 ≤ a) (ha : a ≤ M) (hb : b ≤ M) : vd_top (an a &&& an b) 30 = a ↔ (an b).testBit a = true := by
  rw [Nat.and_comm]
  exact vd_meet_r hA hM hb h1 ha
end
section
/-! PURE: the class's arrays against the reference's -/
def rl_A (a14 a4 a10 a12 : Nat → Nat) : Prop := ∀ c f, c ≤ 30 → f < 16 → a14 (16 * c + f) = a10 (a12 (a4 c * 4 + f / 4) * 4 + f % 4)
def rl_W (o : Nat) (a14 a0 : Nat → Nat) : Prop := ∀ f, f < 16 → a14 (o + f) = a0 f
def rl_C (x : Nat) (a19 : Nat → Nat) : Prop := ∀ f, f < 16 → (x.testBit f = true ↔ a19 f ≠ 0)
def rl_S (x M : Nat) (a15 : Nat → Nat) : Prop := x.testBit 0 = false ∧ ∀ c, 1 ≤ c → c ≤ 30 → (x.testBit c = true ↔ a15 c ≠ 0) ∧ (x.testBit c = true → c ≤ M)
def rl_T (M g : Nat) (a3 : Nat → Nat) : Prop := (∀ b, a3 b ≤ M) ∧ g ≤ M
/-- the rows of the folders and of the roots -/
def rl_R (M L N : Nat) (a4 a10 a12 : Nat → Nat) : Prop :=
  L ≤ 4 * M ∧ N ≤ M ∧ (∀ q, q < 4 → a10 q = 0) ∧ (∀ q, q < 4 → a12 q = 0) ∧ (∀ c, 1 ≤ c → c ≤ M → 1 ≤ a4 c ∧ a4 c ≤ N) ∧ (∀ c, c = 0 ∨ M < c → a4 c = 0) ∧
  (∀ r q, r ≤ N → q < 4 → a12 (r * 4 + q) ≤ L) ∧ (∀ r, 1 ≤ r → r ≤ L → ∃ q, q < 4 ∧ a10 (r * 4 + q) ≠ 0) ∧
  (∀ r t, 1 ≤ r → r ≤ L → 1 ≤ t → t ≤ L → (∀ q, q < 4 → a10 (r * 4 + q) = a10 (t * 4 + q)) → r = t) ∧
  (∀ r t, 1 ≤ r → r ≤ N → 1 ≤ t → t ≤ N → (∀ q, q < 4 → a12 (r * 4 + q) = a12 (t * 4 + q)) → r = t)
def rl_F (x L : Nat) (a4 a11 a12 : Nat → Nat) : Prop := ∀ r, 1 ≤ r → r ≤ L → (a11 r ≠ 0 ↔ ∃ c, 1 ≤ c ∧ c ≤ 30 ∧ x.testBit c = true ∧ ∃ p, p < 4 ∧ a12 (a4 c * 4 + p) = r)
def rl_G (x N : Nat) (a4 a13 : Nat → Nat) : Prop := ∀ r, 1 ≤ r → r ≤ N → (a13 r ≠ 0 ↔ ∃ c, 1 ≤ c ∧ c ≤ 30 ∧ x.testBit c = true ∧ a4 c = r)
def rl_B (a9 a20 : Nat → Nat) : Prop := a20 0 = 0 ∧ ∀ x, x < 10048 → ((a9 (x / 64)).testBit (x % 64) = true ↔ (x < 10000 ∧ a20 x ≠ 0))
def vd_Rel (K : KT) : Prop :=
  (K 47 0 = K 43 0 ∧ K 48 0 = K 40 0 ∧ K 49 0 = K 41 0) ∧ (K 18 = K 3 ∧ K 16 = K 5 ∧ K 17 = K 6) ∧
  rl_A (K 14) (K 4) (K 10) (K 12) ∧ rl_W 496 (K 14) (K 0) ∧ rl_W 512 (K 14) (K 1) ∧ rl_C (K 42 0) (K 19) ∧ rl_S (K 44 0) (K 43 0) (K 15) ∧
  vd_An (K 43 0) (K 7) (K 5) (K 6) ∧ rl_T (K 43 0) (K 41 0) (K 3) ∧ rl_R (K 43 0) (K 45 0) (K 46 0) (K 4) (K 10) (K 12) ∧
  rl_F (K 44 0) (K 45 0) (K 4) (K 11) (K 12) ∧ rl_G (K 44 0) (K 46 0) (K 4) (K 13) ∧ rl_B (K 9) (K 20)
/-- at the start all is 0 -/
theorem vd_Rel_0 : vd_Rel (fun _ _ => 0) := by
  refine ⟨⟨rfl, rfl, rfl⟩, ⟨rfl, rfl, rfl⟩, fun _ _ _ _ => rfl, fun _ _ => rfl, fun _ _ => rfl, fun f _ => ?_, ⟨Nat.zero_testBit 0, fun c _ _ => ?_⟩, ⟨rfl, fun c h1 h2 => absurd (show _ ≤ 0 from h2) (by omega)⟩, ⟨fun _ => Nat.le_refl 0, Nat.le_refl 0⟩, ?_, fun r h1 h2 => absurd (show _ ≤ 0 from h2) (by omega), fun r h1 h2 => absurd (show _ ≤ 0 from h2) (by omega), ⟨rfl, fun x _ => ?_⟩⟩
  · simp
  · simp
  · exact ⟨by decide, by decide, fun _ _ => rfl, fun _ _ => rfl, fun c h1 h2 => absurd (show _ ≤ 0 from h2) (by omega), fun _ _ => rfl, fun _ _ _ _ => Nat.le_refl 0, fun r h1 h2 => absurd (show _ ≤ 0 from h2) (by omega), fun r t h1 h2 => absurd (show _ ≤ 0 from h2) (by omega), fun r t h1 h2 => absurd (show _ ≤ 0 from h2) (by omega)⟩
  · simp
/-! what follows at once -/
theorem rl_cnt {K : KT} (h : rl_A (K 14) (K 4) (K 10) (K 12)) {c f : Nat} (hc : c ≤ 30) (hf : f < 16) : K 14 (16 * c + f) = vd_cnt K c f := h c f hc hf
theorem rl_here {K : KT} (h : vd_Rel K) : vd_hereM K = vd_here K := by
  unfold vd_hereM vd_here
  rw [h.1.2.1, h.2.1.1]
theorem rl_hereM {K : KT} (h : vd_Rel K) : vd_here K ≤ K 43 0 := h.2.2.2.2.2.2.2.2.1.1 _
theorem rl_there {K : KT} (h : vd_Rel K) (x : Int32) : vd_thM K x = vd_there K x := by
  unfold vd_thM vd_there
  rw [h.2.1.1]
theorem rl_sto {K : KT} (h : vd_Rel K) (x : Int32) : vd_stoM K x = vd_hol K x := by
  unfold vd_stoM vd_hol
  cases hi : vd_in 1 30 x with
  | false => rfl
  | true =>
    obtain ⟨c, h1, h2, rfl⟩ := vd_in_t hi
    rw [nI_clamp (by omega), Bool.true_and, Bool.true_and]
    have e := ((h.2.2.2.2.2.2.1).2 c h1 h2).1
    cases hb : (K 44 0).testBit c with
    | false =>
      rw [hb] at e
      have : K 15 c = 0 := Classical.byContradiction fun z => absurd (e.mpr z) (by decide)
      simp [this]
    | true =>
      have := e.mp hb
      simp [this]
theorem rl_ash {K : KT} (h : vd_Rel K) (hB : vd_Bd K) : vd_same K 32 (vd_hereM K) = vd_ash K 1 := by
  unfold vd_same vd_ash
  have hh : vd_here K ≤ 30 := Nat.le_trans (rl_hereM h) (hB 43 0 (by decide))
  refine vd_eqn_c ⟨fun z f hf => ?_, fun z f hf => ?_⟩
  · have := z f hf
    rw [rl_here h, rl_cnt h.2.2.1 hh hf] at this
    rw [← this]
    exact (h.2.2.2.2.1 f hf).symm
  · rw [rl_here h, rl_cnt h.2.2.1 hh hf, ← z f hf]
    exact h.2.2.2.2.1 f hf
theorem rl_tidy {K : KT} (h : vd_Rel K) (hB : vd_Bd K) : vd_tidyM K = vd_tidy K := by
  unfold vd_tidyM vd_tidy
  rw [rl_ash h hB]
  congr 1
  unfold vd_same vd_un
  cases hz : (vd_cn (fun f => K 0 f != K 1 f) 16 == 0) with
  | true =>
    have z := vd_cn_0 (eq_of_beq hz)
    refine vd_eqn_t (fun f hf => ?_)
    have z2 : (K 0 f != K 1 f) = false := z f hf
    rw [show 16 * 31 + f = 496 + f by omega, show 16 * 32 + f = 512 + f by omega, h.2.2.2.1 f hf, h.2.2.2.2.1 f hf]
    simpa using z2
  | false =>
    refine vd_eqn_f (fun z => ?_)
    have : vd_cn (fun f => K 0 f != K 1 f) 16 = 0 := vd_cn_zero (fun f hf => by
      have z2 := z f hf
      rw [show 16 * 31 + f = 496 + f by omega, show 16 * 32 + f = 512 + f by omega, h.2.2.2.1 f hf, h.2.2.2.2.1 f hf] at z2
      simp [z2])
    rw [this] at hz
    exact absurd hz (by decide)
end
section
/-! PURE: the simple operations. Rel' K2 from Rel K, where K2 differs in few arrays: the rest by definition -/
theorem op_write {K : KT} (h : vd_Rel K) (x y : Int32) (K1 : KT) (e1 : K1 = if (vd_in 0 15 x && vd_in 0 9999 y) = true then vd_st K 0 x.toNatClampNeg y.toNatClampNeg else K) :
    vd_Rel (if (vd_in 0 15 x && vd_in 0 9999 y) = true then vd_st K1 14 (496 + x.toNatClampNeg) y.toNatClampNeg else K1) := by
  subst e1
  cases hb : (vd_in 0 15 x && vd_in 0 9999 y) with
  | false => exact h
  | true =>
    rw [if_pos rfl, if_pos rfl]
    rw [Bool.and_eq_true] at hb
    obtain ⟨f, hf1, hf2, rfl⟩ := vd_in_t hb.1
    rw [nI_clamp (show f < 2 ^ 31 by omega)]
    generalize y.toNatClampNeg = g
    obtain ⟨r1, r2, r3, r4, r5, r6, r7, r8, r9, r10, r11, r12, r13⟩ := h
    refine ⟨r1, r2, fun c q hc hq => ?_, fun q hq => ?_, fun q hq => ?_, r6, r7, r8, r9, r10, r11, r12, r13⟩
    · show (if 16 * c + q = 496 + f then g else K 14 (16 * c + q)) = _
      rw [if_neg (by omega)]
      exact r3 c q hc hq
    · show (if 496 + q = 496 + f then g else K 14 (496 + q)) = (if q = f then g else K 0 q)
      by_cases e : q = f
      · rw [if_pos (by omega), if_pos e]
      · rw [if_neg (by omega), if_neg e]
        exact r4 q hq
    · show (if 512 + q = 496 + f then g else K 14 (512 + q)) = K 1 q
      rw [if_neg (by omega)]
      exact r5 q hq
theorem vd_clr_bit {c f i : Nat} (hi : i < 16) : (vd_clr c f).testBit i = (c.testBit i && !decide (f = i)) := by
  unfold vd_clr
  rw [Nat.testBit_and, Nat.testBit_xor, Nat.testBit_two_pow]
  have h6 : (65535 : Nat).testBit i = decide (i < 16) := Nat.testBit_two_pow_sub_one 16 i
  rw [h6, decide_eq_true hi, Bool.true_xor]
/-- a blob is kept on both sides -/
theorem rl_B_bk {K : KT} {x : Nat} (h : rl_B (K 9) (K 20)) (hx : x ≤ 9999) : rl_B (vd_bl (vd_bk K x) x 9) (vd_bl (vd_bk K x) x 20) := by
  rw [vd_bl_o _ _ (by decide)]
  unfold vd_bl vd_bk
  by_cases h0 : x = 0
  · rw [if_pos h0, if_pos h0]
    exact h
  · rw [if_neg h0, if_neg h0]
    refine ⟨?_, fun z hz => ?_⟩
    · show (if 0 = x then 1 else K 20 0) = 0
      rw [if_neg (fun e => h0 e.symm)]
      exact h.1
    · show ((if z / 64 = x / 64 then (K 9 (x / 64) ||| 2 ^ (x % 64)) else K 9 (z / 64)).testBit (z % 64) = true) ↔ (z < 10000 ∧ (if z = x then 1 else K 20 z) ≠ 0)
      by_cases e : z = x
      · subst e
        rw [if_pos rfl, if_pos rfl, Nat.testBit_or, Nat.testBit_two_pow_self, Bool.or_true]
        exact ⟨fun _ => ⟨by omega, by decide⟩, fun _ => rfl⟩
      · rw [if_neg e]
        by_cases e2 : z / 64 = x / 64
        · rw [if_pos e2, Nat.testBit_or, Nat.testBit_two_pow, decide_eq_false (by omega), Bool.or_false, ← e2]
          exact h.2 z hz
        · rw [if_neg e2]
          exact h.2 z hz
theorem op_stage {K : KT} (h : vd_Rel K) (hB : vd_Bd K) (x : Int32) (K1 : KT) (e1 : K1 = if vd_in 0 15 x = true then vd_stK K x.toNatClampNeg else K) :
    vd_Rel (if vd_in 0 15 x = true then vd_st (vd_bl (vd_st K1 14 (512 + x.toNatClampNeg) (K1 14 (496 + x.toNatClampNeg))) (K1 14 (496 + x.toNatClampNeg))) 19 x.toNatClampNeg 0 else K1) := by
  subst e1
  cases hb : vd_in 0 15 x with
  | false => exact h
  | true =>
    rw [if_pos rfl, if_pos rfl]
    obtain ⟨f, hf1, hf2, rfl⟩ := vd_in_t hb
    rw [nI_clamp (show f < 2 ^ 31 by omega)]
    obtain ⟨r1, r2, r3, r4, r5, r6, r7, r8, r9, r10, r11, r12, r13⟩ := h
    have hw : K 0 f ≤ 9999 := hB 0 f (show f < 16 by omega)
    have ev : vd_stK K f 14 (496 + f) = K 0 f := by
      unfold vd_stK
      rw [vd_st_o (by decide), vd_bk_o _ _ (by decide), vd_st_o (by decide)]
      exact r4 f (by omega)
    rw [ev]
    have e14 : vd_stK K f 14 = K 14 := by
      unfold vd_stK
      rw [vd_st_o (by decide), vd_bk_o _ _ (by decide), vd_st_o (by decide)]
    have eo : ∀ a, a ≠ 1 → a ≠ 9 → a ≠ 42 → vd_stK K f a = K a := by
      intro a h1 h2 h3
      unfold vd_stK
      rw [vd_st_o h3, vd_bk_o _ _ h2, vd_st_o h1]
    have e1 : vd_stK K f 1 = fun b => if b = f then K 0 f else K 1 b := by
      unfold vd_stK
      rw [vd_st_o (by decide), vd_bk_o _ _ (by decide), vd_st_s]
    have e42 : vd_stK K f 42 0 = vd_clr (K 42 0) f := by
      unfold vd_stK
      rw [vd_st_s]
      exact if_pos rfl
    generalize hK1 : vd_stK K f = K1 at *
    have g : ∀ a, a ≠ 14 → a ≠ 19 → a ≠ 20 → vd_st (vd_bl (vd_st K1 14 (512 + f) (K 0 f)) (K 0 f)) 19 f 0 a = K1 a := by
      intro a h1 h2 h3
      rw [vd_st_o h2, vd_bl_o _ _ h3, vd_st_o h1]
    have g14 : vd_st (vd_bl (vd_st K1 14 (512 + f) (K 0 f)) (K 0 f)) 19 f 0 14 = fun b => if b = 512 + f then K 0 f else K 14 b := by
      rw [vd_st_o (by decide), vd_bl_o _ _ (by decide), vd_st_s, e14]
    have g19 : vd_st (vd_bl (vd_st K1 14 (512 + f) (K 0 f)) (K 0 f)) 19 f 0 19 = fun b => if b = f then 0 else K 19 b := by
      rw [vd_st_s, vd_bl_o _ _ (by decide), vd_st_o (by decide), eo 19 (by decide) (by decide) (by decide)]
    have g20 : rl_B (K1 9) (vd_st (vd_bl (vd_st K1 14 (512 + f) (K 0 f)) (K 0 f)) 19 f 0 20) := by
      have hb2 := rl_B_bk r13 hw
      rw [vd_bl_o _ _ (by decide)] at hb2
      have z9 : K1 9 = vd_bk K (K 0 f) 9 := by
        rw [← hK1]
        unfold vd_stK
        rw [vd_st_o (by decide)]
        unfold vd_bk
        split
        · exact vd_st_o (by decide)
        · rw [vd_st_s, vd_st_s, vd_st_o (by decide)]
      have z20 : vd_st (vd_bl (vd_st K1 14 (512 + f) (K 0 f)) (K 0 f)) 19 f 0 20 = vd_bl (vd_bk K (K 0 f)) (K 0 f) 20 := by
        rw [vd_st_o (by decide)]
        unfold vd_bl
        split
        · rw [vd_st_o (by decide), eo 20 (by decide) (by decide) (by decide), vd_bk_o _ _ (by decide)]
        · rw [vd_st_s, vd_st_s, vd_st_o (by decide), eo 20 (by decide) (by decide) (by decide), vd_bk_o _ _ (by decide)]
      rw [z9, z20]
      exact hb2
    unfold vd_Rel
    simp only [g14, g19, g 47 (by decide) (by decide) (by decide), g 43 (by decide) (by decide) (by decide), g 48 (by decide) (by decide) (by decide), g 40 (by decide) (by decide) (by decide), g 49 (by decide) (by decide) (by decide), g 41 (by decide) (by decide) (by decide), g 18 (by decide) (by decide) (by decide), g 3 (by decide) (by decide) (by decide), g 16 (by decide) (by decide) (by decide), g 5 (by decide) (by decide) (by decide), g 17 (by decide) (by decide) (by decide), g 6 (by decide) (by decide) (by decide), g 4 (by decide) (by decide) (by decide), g 10 (by decide) (by decide) (by decide), g 12 (by decide) (by decide) (by decide), g 0 (by decide) (by decide) (by decide), g 1 (by decide) (by decide) (by decide), g 42 (by decide) (by decide) (by decide), g 44 (by decide) (by decide) (by decide), g 15 (by decide) (by decide) (by decide), g 7 (by decide) (by decide) (by decide), g 45 (by decide) (by decide) (by decide), g 46 (by decide) (by decide) (by decide), g 11 (by decide) (by decide) (by decide), g 13 (by decide) (by decide) (by decide), g 9 (by decide) (by decide) (by decide)]
    rw [e1, e42, eo 47 (by decide) (by decide) (by decide), eo 43 (by decide) (by decide) (by decide), eo 48 (by decide) (by decide) (by decide), eo 40 (by decide) (by decide) (by decide), eo 49 (by decide) (by decide) (by decide), eo 41 (by decide) (by decide) (by decide), eo 18 (by decide) (by decide) (by decide), eo 3 (by decide) (by decide) (by decide), eo 16 (by decide) (by decide) (by decide), eo 5 (by decide) (by decide) (by decide), eo 17 (by decide) (by decide) (by decide), eo 6 (by decide) (by decide) (by decide), eo 4 (by decide) (by decide) (by decide), eo 10 (by decide) (by decide) (by decide), eo 12 (by decide) (by decide) (by decide), eo 0 (by decide) (by decide) (by decide), eo 44 (by decide) (by decide) (by decide), eo 15 (by decide) (by decide) (by decide), eo 7 (by decide) (by decide) (by decide), eo 45 (by decide) (by decide) (by decide), eo 46 (by decide) (by decide) (by decide), eo 11 (by decide) (by decide) (by decide), eo 13 (by decide) (by decide) (by decide)]
    refine ⟨r1, r2, fun c q hc hq => ?_, fun q hq => ?_, fun q hq => ?_, fun q hq => ?_, r7, r8, r9, r10, r11, r12, g20⟩
    · show (if 16 * c + q = 512 + f then _ else _) = _
      rw [if_neg (by omega)]
      exact r3 c q hc hq
    · show (if 496 + q = 512 + f then _ else _) = _
      rw [if_neg (by omega)]
      exact r4 q hq
    · show (if 512 + q = 512 + f then _ else _) = (if q = f then _ else _)
      by_cases e : q = f
      · rw [if_pos (by omega), if_pos e]
      · rw [if_neg (by omega), if_neg e]
        exact r5 q hq
    · rw [vd_clr_bit hq]
      show _ ↔ (if q = f then 0 else K 19 q) ≠ 0
      by_cases e : q = f
      · rw [if_pos e, decide_eq_true e.symm]
        simp
      · rw [if_neg e, decide_eq_false (fun z => e z.symm)]
        simpa using r6 q hq
end
section
/-! PURE: what is only read -/
theorem op_content {K : KT} (h : vd_Rel K) (w x : Int32) : (if (vd_in 0 1 w && vd_in 0 15 x) = true then nI (K w.toNatClampNeg x.toNatClampNeg) else (-1 : Int32)) = (if (vd_in 0 1 w && vd_in 0 15 x) = true then nI (K 14 (16 * (31 + w.toNatClampNeg) + x.toNatClampNeg)) else (-1 : Int32)) := by
  cases hb : (vd_in 0 1 w && vd_in 0 15 x) with
  | false => rw [if_neg (by decide), if_neg (by decide)]
  | true =>
    rw [if_pos rfl, if_pos rfl]
    rw [Bool.and_eq_true] at hb
    obtain ⟨g, hg1, hg2, rfl⟩ := vd_in_t hb.1
    obtain ⟨f, hf1, hf2, rfl⟩ := vd_in_t hb.2
    rw [nI_clamp (show f < 2 ^ 31 by omega), nI_clamp (show g < 2 ^ 31 by omega)]
    rcases (show g = 0 ∨ g = 1 by omega) with rfl | rfl
    · rw [show 16 * (31 + 0) + f = 496 + f by omega, h.2.2.2.1 f (by omega)]
    · rw [show 16 * (31 + 1) + f = 512 + f by omega, h.2.2.2.2.1 f (by omega)]
theorem op_at {K : KT} (h : vd_Rel K) (x y : Int32) : (if (vd_hol K x && vd_in 0 15 y) = true then nI (vd_cnt K x.toNatClampNeg y.toNatClampNeg) else (-1 : Int32)) = (if (vd_stoM K x && vd_in 0 15 y) = true then nI (K 14 (16 * x.toNatClampNeg + y.toNatClampNeg)) else (-1 : Int32)) := by
  rw [rl_sto h]
  cases hb : (vd_hol K x && vd_in 0 15 y) with
  | false => rw [if_neg (by decide), if_neg (by decide)]
  | true =>
    rw [if_pos rfl, if_pos rfl]
    rw [Bool.and_eq_true] at hb
    obtain ⟨g, hg1, hg2, rfl, -⟩ := vd_hol_t hb.1
    obtain ⟨f, hf1, hf2, rfl⟩ := vd_in_t hb.2
    rw [nI_clamp (show f < 2 ^ 31 by omega), nI_clamp (show g < 2 ^ 31 by omega), rl_cnt h.2.2.1 hg2 (by omega)]
theorem op_parent {K : KT} (h : vd_Rel K) (x y : Int32) : (if (vd_hol K x && vd_in 0 1 y) = true then nI (if y.toNatClampNeg = 0 then K 5 x.toNatClampNeg else K 6 x.toNatClampNeg) else (-1 : Int32)) = (if (vd_stoM K x && vd_in 0 1 y) = true then nI (if y.toNatClampNeg = 0 then K 16 x.toNatClampNeg else K 17 x.toNatClampNeg) else (-1 : Int32)) := by
  rw [rl_sto h, h.2.1.2.1, h.2.1.2.2]
theorem op_branchAt {K : KT} (h : vd_Rel K) (x : Int32) : (if vd_in 0 5 x = true then nI (K 3 x.toNatClampNeg) else (-1 : Int32)) = (if vd_in 0 5 x = true then nI (K 18 x.toNatClampNeg) else (-1 : Int32)) := by
  rw [h.2.1.1]
theorem rl_An {K : KT} (h : vd_Rel K) : vd_An (K 43 0) (K 7) (K 16) (K 17) := by
  rw [h.2.1.2.1, h.2.1.2.2]
  exact h.2.2.2.2.2.2.2.1
theorem rl_hol_le {K : KT} (h : vd_Rel K) {c : Nat} (h1 : 1 ≤ c) (h2 : c ≤ 30) (hb : (K 44 0).testBit c = true) : c ≤ K 43 0 := ((h.2.2.2.2.2.2.1).2 c h1 h2).2 hb
theorem op_common {K : KT} (h : vd_Rel K) (hB : vd_Bd K) (x y : Int32) : (if (vd_hol K x && vd_hol K y) = true then nI (vd_top (K 7 x.toNatClampNeg &&& K 7 y.toNatClampNeg) 30) else (-1 : Int32)) = (if (vd_stoM K x && vd_stoM K y) = true then nI (vd_shr K x.toNatClampNeg y.toNatClampNeg) else (-1 : Int32)) := by
  rw [rl_sto h, rl_sto h]
  cases hb : (vd_hol K x && vd_hol K y) with
  | false => rw [if_neg (by decide), if_neg (by decide)]
  | true =>
    rw [if_pos rfl, if_pos rfl]
    rw [Bool.and_eq_true] at hb
    obtain ⟨g, hg1, hg2, rfl, hg3⟩ := vd_hol_t hb.1
    obtain ⟨f, hf1, hf2, rfl, hf3⟩ := vd_hol_t hb.2
    rw [nI_clamp (show f < 2 ^ 31 by omega), nI_clamp (show g < 2 ^ 31 by omega), vd_shr_top (rl_An h) (hB 43 0 (by decide)) (rl_hol_le h hg1 hg2 hg3) (rl_hol_le h hf1 hf2 hf3)]
/-- marks are no part of the relation -/
theorem rl_marks {K K' : KT} (h : vd_Rel K) (e : ∀ a, a ≠ 21 → a ≠ 22 → K' a = K a) : vd_Rel K' := by
  have g : ∀ a, a < 21 ∨ 22 < a → K' a = K a := fun a ha => e a (by omega) (by omega)
  unfold vd_Rel
  rw [g 47 (by omega), g 43 (by omega), g 48 (by omega), g 40 (by omega), g 49 (by omega), g 41 (by omega), g 18 (by omega), g 3 (by omega), g 16 (by omega), g 5 (by omega), g 17 (by omega), g 6 (by omega), g 14 (by omega), g 4 (by omega), g 10 (by omega), g 12 (by omega), g 0 (by omega), g 1 (by omega), g 42 (by omega), g 19 (by omega), g 44 (by omega), g 15 (by omega), g 7 (by omega), g 45 (by omega), g 46 (by omega), g 11 (by omega), g 13 (by omega), g 9 (by omega), g 20 (by omega)]
  exact h
theorem op_commonK {K : KT} (h : vd_Rel K) (x y : Int32) : vd_Rel (if (vd_stoM K x && vd_stoM K y) = true then vd_shK K x.toNatClampNeg y.toNatClampNeg else K) := by
  split
  · exact rl_marks h (fun a h1 h2 => vd_shK_o _ _ _ h1 h2)
  · exact h
theorem op_differ {K : KT} (h : vd_Rel K) (x y : Int32) : (if (vd_hol K x && vd_hol K y) = true then nI (vd_dif K x.toNatClampNeg y.toNatClampNeg) else (-1 : Int32)) = (if (vd_stoM K x && vd_stoM K y) = true then nI (vd_cn (fun q => K 14 (16 * x.toNatClampNeg + q) != K 14 (16 * y.toNatClampNeg + q)) 16) else (-1 : Int32)) := by
  rw [rl_sto h, rl_sto h]
  cases hb : (vd_hol K x && vd_hol K y) with
  | false => rw [if_neg (by decide), if_neg (by decide)]
  | true =>
    rw [if_pos rfl, if_pos rfl]
    rw [Bool.and_eq_true] at hb
    obtain ⟨g, hg1, hg2, rfl, hg3⟩ := vd_hol_t hb.1
    obtain ⟨f, hf1, hf2, rfl, hf3⟩ := vd_hol_t hb.2
    rw [nI_clamp (show f < 2 ^ 31 by omega), nI_clamp (show g < 2 ^ 31 by omega)]
    unfold vd_dif
    rw [vd_cn_congr (P' := fun q => K 14 (16 * g + q) != K 14 (16 * f + q)) (fun q hq => ?_)]
    rw [rl_cnt h.2.2.1 hg2 hq, rl_cnt h.2.2.1 hf2 hq]
theorem op_clashing {K : KT} (h : vd_Rel K) (x : Int32) : (vd_in 0 15 x && (K 42 0).testBit x.toNatClampNeg) = (vd_in 0 15 x && (K 19 x.toNatClampNeg != 0)) := by
  cases hb : vd_in 0 15 x with
  | false => rfl
  | true =>
    obtain ⟨f, hf1, hf2, rfl⟩ := vd_in_t hb
    rw [nI_clamp (show f < 2 ^ 31 by omega), Bool.true_and, Bool.true_and]
    have e := h.2.2.2.2.2.1 f (by omega)
    cases hc : (K 42 0).testBit f with
    | false =>
      rw [hc] at e
      have : K 19 f = 0 := Classical.byContradiction fun z => absurd (e.mpr z) (by decide)
      simp [this]
    | true =>
      have := e.mp hc
      simp [this]
/-! the counts -/
theorem rl_b0 {K : KT} (h : vd_Rel K) : vd_bsz K 157 = vd_c0 K := by
  have hb := h.2.2.2.2.2.2.2.2.2.2.2.2
  rw [vd_bsz_cn]
  show vd_cn _ (1 + (9999 + 48)) = _
  rw [vd_cn_add, vd_cn_add]
  have z1 : vd_cn (fun x => (K 9 (x / 64)).testBit (x % 64)) 1 = 0 := vd_cn_zero (fun i hi => by
    cases hz : (K 9 (i / 64)).testBit (i % 64) with
    | false => rfl
    | true =>
      have := (hb.2 i (by omega)).mp hz
      rw [show i = 0 by omega] at this
      exact absurd hb.1 this.2)
  have z3 : vd_cn (fun i => (fun i => (fun x => (K 9 (x / 64)).testBit (x % 64)) (1 + i)) (9999 + i)) 48 = 0 := vd_cn_zero (fun i hi => by
    show (K 9 ((1 + (9999 + i)) / 64)).testBit ((1 + (9999 + i)) % 64) = false
    cases hz : (K 9 ((1 + (9999 + i)) / 64)).testBit ((1 + (9999 + i)) % 64) with
    | false => rfl
    | true =>
      have := (hb.2 (1 + (9999 + i)) (by omega)).mp hz
      omega)
  rw [z1, z3, Nat.zero_add, Nat.add_zero]
  unfold vd_c0
  refine vd_cn_congr (fun i hi => ?_)
  show (K 9 ((1 + i) / 64)).testBit ((1 + i) % 64) = (K 20 (i + 1) != 0)
  have e := hb.2 (1 + i) (by omega)
  rw [Nat.add_comm i 1]
  cases hz : (K 9 ((1 + i) / 64)).testBit ((1 + i) % 64) with
  | false =>
    rw [hz] at e
    have : K 20 (1 + i) = 0 := Classical.byContradiction fun z => absurd (e.mpr ⟨by omega, z⟩) (by decide)
    simp [this]
  | true =>
    have := (e.mp hz).2
    simp [this]
theorem rl_b3 {K : KT} (h : vd_Rel K) (hB : vd_Bd K) : vd_pc 32 (K 44 0) = vd_c3 K := by
  have hs := h.2.2.2.2.2.2.1
  unfold vd_pc
  show vd_cn _ (1 + (30 + 1)) = _
  rw [vd_cn_add, vd_cn_add]
  have hlt : K 44 0 < 2 ^ 31 := Nat.lt_succ_of_le (hB 44 0 (by decide))
  have z1 : vd_cn (fun i => (K 44 0).testBit i) 1 = 0 := vd_cn_zero (fun i hi => by rw [show i = 0 by omega]; exact hs.1)
  have z3 : vd_cn (fun i => (fun i => (fun i => (K 44 0).testBit i) (1 + i)) (30 + i)) 1 = 0 := vd_cn_zero (fun i hi => by
    show (K 44 0).testBit (1 + (30 + i)) = false
    rw [show 1 + (30 + i) = 31 by omega]
    exact Nat.testBit_lt_two_pow hlt)
  rw [z1, z3, Nat.zero_add, Nat.add_zero]
  unfold vd_c3
  refine vd_cn_congr (fun i hi => ?_)
  show (K 44 0).testBit (1 + i) = (K 15 (i + 1) != 0)
  have e := (hs.2 (1 + i) (by omega) (by omega)).1
  rw [Nat.add_comm i 1]
  cases hz : (K 44 0).testBit (1 + i) with
  | false =>
    rw [hz] at e
    have : K 15 (1 + i) = 0 := Classical.byContradiction fun z => absurd (e.mpr z) (by decide)
    simp [this]
  | true =>
    have := e.mp hz
    simp [this]
theorem rl_b8 {K : KT} (h : vd_Rel K) (hB : vd_Bd K) : vd_pc 32 (K 42 0) = vd_clM K := by
  have hs := h.2.2.2.2.2.1
  unfold vd_pc
  show vd_cn _ (16 + 16) = _
  rw [vd_cn_add]
  have hlt : K 42 0 < 2 ^ 16 := Nat.lt_succ_of_le (hB 42 0 (by decide))
  have z3 : vd_cn (fun i => (fun i => (K 42 0).testBit i) (16 + i)) 16 = 0 := vd_cn_zero (fun i hi => by
    show (K 42 0).testBit (16 + i) = false
    exact Nat.testBit_lt_two_pow (Nat.lt_of_lt_of_le hlt (Nat.pow_le_pow_right (by decide) (by omega))))
  rw [z3, Nat.add_zero]
  unfold vd_clM
  refine vd_cn_congr (fun i hi => ?_)
  have e := hs i hi
  show (K 42 0).testBit i = (K 19 i != 0)
  cases hz : (K 42 0).testBit i with
  | false =>
    rw [hz] at e
    have : K 19 i = 0 := Classical.byContradiction fun z => absurd (e.mpr z) (by decide)
    simp [this]
  | true =>
    have := e.mp hz
    simp [this]
theorem rl_b9 {K : KT} (h : vd_Rel K) : vd_un K = vd_chg K := by
  unfold vd_un vd_chg
  refine vd_cn_congr (fun f hf => ?_)
  rw [h.2.2.2.1 f hf, h.2.2.2.2.1 f hf]
/-! folders and roots: rows are distinct, so their numbers say whether they are alike -/
theorem rl_row0 {M L N : Nat} {a4 a10 a12 : Nat → Nat} (h : rl_R M L N a4 a10 a12) {r : Nat} (hr : r ≤ L) : (∀ q, q < 4 → a10 (r * 4 + q) = 0) ↔ r = 0 := by
  obtain ⟨-, -, h3, -, -, -, -, h8, -, -⟩ := h
  constructor
  · intro z
    by_cases e : r = 0
    · exact e
    · obtain ⟨q, hq, hn⟩ := h8 r (by omega) hr
      exact absurd (z q hq) hn
  · intro e q hq
    rw [e, Nat.zero_mul, Nat.zero_add]
    exact h3 q hq
theorem rl_fold {M L N : Nat} {a4 a10 a12 : Nat → Nat} (h : rl_R M L N a4 a10 a12) {r t : Nat} (hr : r ≤ L) (ht : t ≤ L) (z : ∀ q, q < 4 → a10 (r * 4 + q) = a10 (t * 4 + q)) : r = t := by
  by_cases e : r = 0
  · have := (rl_row0 h ht).mp (fun q hq => by rw [← z q hq]; exact (rl_row0 h hr).mpr e q hq)
    omega
  · by_cases e2 : t = 0
    · have := (rl_row0 h hr).mp (fun q hq => by rw [z q hq]; exact (rl_row0 h ht).mpr e2 q hq)
      omega
    · exact h.2.2.2.2.2.2.2.2.1 r t (by omega) hr (by omega) ht z
/-- the number of a commit's folder -/
def rl_fn (a4 a12 : Nat → Nat) (c p : Nat) : Nat := a12 (a4 c * 4 + p)
theorem rl_fn_le {M L N : Nat} {a4 a10 a12 : Nat → Nat} (h : rl_R M L N a4 a10 a12) {c p : Nat} (hp : p < 4) : rl_fn a4 a12 c p ≤ L := by
  obtain ⟨-, -, -, h4, h5, h6, h7, -⟩ := h
  unfold rl_fn
  by_cases hc : c = 0 ∨ M < c
  · rw [h6 c hc, Nat.zero_mul, Nat.zero_add, h4 p hp]
    exact Nat.zero_le _
  · exact h7 _ _ (h5 c (by omega) (by omega)).2 hp
theorem rl_con {a14 a4 a10 a12 : Nat → Nat} (h : rl_A a14 a4 a10 a12) {c p q : Nat} (hc : c ≤ 30) (hp : p < 4) (hq : q < 4) : a14 (16 * c + (4 * p + q)) = a10 (rl_fn a4 a12 c p * 4 + q) := by
  rw [h c (4 * p + q) hc (by omega)]
  unfold rl_fn
  rw [show (4 * p + q) / 4 = p by omega, show (4 * p + q) % 4 = q by omega]
/-- two folders of commits are alike just where their numbers are -/
theorem rl_alike {M L N : Nat} {a14 a4 a10 a12 : Nat → Nat} (hA : rl_A a14 a4 a10 a12) (h : rl_R M L N a4 a10 a12) {c d p s : Nat} (hc : c ≤ 30) (hd : d ≤ 30) (hp : p < 4) (hs : s < 4) : (∀ q, q < 4 → a14 (16 * c + (4 * p + q)) = a14 (16 * d + (4 * s + q))) ↔ rl_fn a4 a12 c p = rl_fn a4 a12 d s := by
  constructor
  · intro z
    exact rl_fold h (rl_fn_le h hp) (rl_fn_le h hs) (fun q hq => by rw [← rl_con hA hc hp hq, ← rl_con hA hd hs hq]; exact z q hq)
  · intro e q hq
    rw [rl_con hA hc hp hq, rl_con hA hd hs hq, e]
theorem rl_root {M L N : Nat} {a14 a4 a10 a12 : Nat → Nat} (hA : rl_A a14 a4 a10 a12) (h : rl_R M L N a4 a10 a12) (hM : M ≤ 30) {c d : Nat} (h1 : 1 ≤ c) (hc : c ≤ M) (h2 : 1 ≤ d) (hd : d ≤ M) : (∀ f, f < 16 → a14 (16 * c + f) = a14 (16 * d + f)) ↔ a4 c = a4 d := by
  constructor
  · intro z
    obtain ⟨g1, g2⟩ := h.2.2.2.2.1 c h1 hc
    obtain ⟨g3, g4⟩ := h.2.2.2.2.1 d h2 hd
    refine h.2.2.2.2.2.2.2.2.2 _ _ g1 g2 g3 g4 (fun p hp => ?_)
    exact (rl_alike hA h (by omega) (by omega) hp hp).mp (fun q hq => z (4 * p + q) (by omega))
  · intro e f hf
    rw [hA c f (by omega) hf, hA d f (by omega) hf, e]
theorem rl_b2 {K : KT} (h : vd_Rel K) (hB : vd_Bd K) : vd_rsz K 13 46 = vd_c2 K := by
  obtain ⟨r1, r2, r3, r4, r5, r6, r7, r8, r9, r10, r11, r12, r13⟩ := h
  have hM : K 43 0 ≤ 30 := hB 43 0 (by decide)
  have sto : ∀ c, 1 ≤ c → c ≤ 30 → K 15 c ≠ 0 → c ≤ K 43 0 := fun c h1 h2 h3 => (r7.2 c h1 h2).2 ((r7.2 c h1 h2).1.mpr h3)
  symm
  refine vd_fresh2 (act := fun t => K 15 (t + 1) != 0) (g := fun t => K 4 (t + 1)) (L := K 46 0) 30 (fun t ht ha => ?_) (fun t ht => ?_) (fun r hr => ?_)
  · have ha : K 15 (t + 1) ≠ 0 := by simpa using ha
    exact r10.2.2.2.2.1 (t + 1) (by omega) (sto _ (by omega) (by omega) ha)
  · show vd_frR K (t + 1) = true ↔ ((K 15 (t + 1) != 0) = true ∧ ∀ u, u < t → ¬ ((K 15 (u + 1) != 0) = true ∧ K 4 (u + 1) = K 4 (t + 1)))
    unfold vd_frR
    rw [decide_eq_true_eq]
    constructor
    · rintro ⟨z1, z2⟩
      refine ⟨vd_bne z1, fun u hu => ?_⟩
      rintro ⟨g1, g2⟩
      have g1 : K 15 (u + 1) ≠ 0 := by simpa using g1
      refine z2 (u + 1) (by omega) (by omega) ⟨g1, vd_eqn_t ?_⟩
      exact (rl_root r3 r10 hM (by omega) (sto _ (by omega) (by omega) z1) (by omega) (sto _ (by omega) (by omega) g1)).mpr g2.symm
    · rintro ⟨z1, z2⟩
      have z1 : K 15 (t + 1) ≠ 0 := by simpa using z1
      refine ⟨z1, fun b hb h1 => ?_⟩
      rintro ⟨g1, g2⟩
      have e : b - 1 + 1 = b := by omega
      refine z2 (b - 1) (by omega) ⟨?_, ?_⟩
      · rw [e]
        exact vd_bne g1
      · rw [e]
        exact ((rl_root r3 r10 hM (by omega) (sto _ (by omega) (by omega) z1) h1 (sto _ h1 (by omega) g1)).mp (vd_eqn_i.mp g2)).symm
  · show (K 13 (r + 1) != 0) = true ↔ ∃ t, t < 30 ∧ (K 15 (t + 1) != 0) = true ∧ K 4 (t + 1) = r + 1
    rw [bne_iff_ne, r12 (r + 1) (by omega) (by omega)]
    constructor
    · rintro ⟨c, g1, g2, g3, g4⟩
      have e : c - 1 + 1 = c := by omega
      refine ⟨c - 1, by omega, ?_, ?_⟩
      · rw [e]
        exact vd_bne ((r7.2 c g1 g2).1.mp g3)
      · rw [e]
        exact g4
    · rintro ⟨t, g1, g2, g3⟩
      have g2 : K 15 (t + 1) ≠ 0 := by simpa using g2
      exact ⟨t + 1, by omega, by omega, (r7.2 _ (by omega) (by omega)).1.mpr g2, g3⟩
theorem rl_or4 {a b c d : Nat} : a ||| b ||| c ||| d = 0 ↔ (a = 0 ∧ b = 0 ∧ c = 0 ∧ d = 0) := by
  rw [Nat.or_eq_zero_iff, Nat.or_eq_zero_iff, Nat.or_eq_zero_iff, and_assoc, and_assoc]
theorem rl_b1 {K : KT} (h : vd_Rel K) (hB : vd_Bd K) : vd_rsz K 11 45 = vd_c1 K := by
  obtain ⟨r1, r2, r3, r4, r5, r6, r7, r8, r9, r10, r11, r12, r13⟩ := h
  have hM : K 43 0 ≤ 30 := hB 43 0 (by decide)
  have hor : ∀ t, t < 120 → (vd_orM K (16 + 4 * t) = 0 ↔ rl_fn (K 4) (K 12) (1 + t / 4) (t % 4) = 0) := by
    intro t ht
    have hc : ∀ q, q < 4 → K 14 (16 + 4 * t + q) = K 10 (rl_fn (K 4) (K 12) (1 + t / 4) (t % 4) * 4 + q) := fun q hq => by
      rw [← rl_con r3 (by omega) (by omega) hq]
      congr 1
      omega
    rw [← rl_row0 r10 (rl_fn_le r10 (c := 1 + t / 4) (p := t % 4) (by omega))]
    unfold vd_orM
    rw [rl_or4]
    constructor
    · rintro ⟨z0, z1, z2, z3⟩ q hq
      rw [← hc q hq]
      rcases (show q = 0 ∨ q = 1 ∨ q = 2 ∨ q = 3 by omega) with rfl | rfl | rfl | rfl
      · exact z0
      · exact z1
      · exact z2
      · exact z3
    · intro z
      exact ⟨(hc 0 (by omega)).trans (z 0 (by omega)), (hc 1 (by omega)).trans (z 1 (by omega)), (hc 2 (by omega)).trans (z 2 (by omega)), (hc 3 (by omega)).trans (z 3 (by omega))⟩
  have hal : ∀ t u, t < 120 → u < 120 → (vd_alM K (16 + 4 * t) (16 + 4 * u) = true ↔ rl_fn (K 4) (K 12) (1 + t / 4) (t % 4) = rl_fn (K 4) (K 12) (1 + u / 4) (u % 4)) := by
    intro t u ht hu
    rw [← rl_alike r3 r10 (show 1 + t / 4 ≤ 30 by omega) (show 1 + u / 4 ≤ 30 by omega) (show t % 4 < 4 by omega) (show u % 4 < 4 by omega)]
    unfold vd_alM
    rw [vd_eqn_i]
    constructor
    · intro z q hq
      have := z q hq
      rw [show 16 * (1 + t / 4) + (4 * (t % 4) + q) = 16 + 4 * t + q by omega, show 16 * (1 + u / 4) + (4 * (u % 4) + q) = 16 + 4 * u + q by omega]
      exact this
    · intro z q hq
      have := z q hq
      rw [show 16 * (1 + t / 4) + (4 * (t % 4) + q) = 16 + 4 * t + q by omega, show 16 * (1 + u / 4) + (4 * (u % 4) + q) = 16 + 4 * u + q by omega] at this
      exact this
  have hdv : ∀ t, (16 + 4 * t) / 16 = 1 + t / 4 := fun t => by omega
  symm
  refine vd_fresh2 (act := fun t => decide (K 15 (1 + t / 4) ≠ 0 ∧ rl_fn (K 4) (K 12) (1 + t / 4) (t % 4) ≠ 0)) (g := fun t => rl_fn (K 4) (K 12) (1 + t / 4) (t % 4)) (L := K 45 0) 120 (fun t ht ha => ?_) (fun t ht => ?_) (fun r hr => ?_)
  · have ha := of_decide_eq_true ha
    exact ⟨Nat.pos_of_ne_zero ha.2, rl_fn_le r10 (by omega)⟩
  · unfold vd_frF
    rw [decide_eq_true_eq, decide_eq_true_eq, hdv]
    constructor
    · rintro ⟨z1, z2, z3⟩
      refine ⟨⟨z1, fun z => z2 ((hor t ht).mpr z)⟩, fun u hu => ?_⟩
      rintro ⟨g1, g2⟩
      have g1 := of_decide_eq_true g1
      exact z3 u hu ⟨by rw [hdv]; exact g1.1, (hal t u ht (by omega)).mpr g2.symm⟩
    · rintro ⟨z1, z2⟩
      refine ⟨z1.1, fun z => z1.2 ((hor t ht).mp z), fun u hu => ?_⟩
      rintro ⟨g1, g2⟩
      rw [hdv] at g1
      have g3 := (hal t u ht (by omega)).mp g2
      exact z2 u hu ⟨decide_eq_true ⟨g1, by rw [← g3]; exact z1.2⟩, g3.symm⟩
  · rw [bne_iff_ne, r11 (r + 1) (by omega) (by omega)]
    constructor
    · rintro ⟨c, g1, g2, g3, p, g4, g5⟩
      have e3 : 1 + (4 * (c - 1) + p) / 4 = c := by omega
      have e4 : (4 * (c - 1) + p) % 4 = p := by omega
      refine ⟨4 * (c - 1) + p, by omega, ?_, ?_⟩
      · rw [decide_eq_true_eq, e3, e4]
        refine ⟨(r7.2 c g1 g2).1.mp g3, ?_⟩
        show K 12 (K 4 c * 4 + p) ≠ 0
        omega
      · show rl_fn (K 4) (K 12) (1 + (4 * (c - 1) + p) / 4) ((4 * (c - 1) + p) % 4) = r + 1
        rw [e3, e4]
        exact g5
    · rintro ⟨t, g1, g2, g3⟩
      have g2 := of_decide_eq_true g2
      exact ⟨1 + t / 4, by omega, by omega, (r7.2 _ (by omega) (by omega)).1.mpr g2.1, t % 4, by omega, g3⟩
theorem rl_size {K : KT} (h : vd_Rel K) (hB : vd_Bd K) : vd_size K = vd_obM K := by
  unfold vd_size vd_obM
  rw [rl_b0 h, rl_b1 h hB, rl_b2 h hB, rl_b3 h hB]
theorem op_count {K : KT} (h : vd_Rel K) (hB : vd_Bd K) (x : Int32) : vd_ct (vd_ctN K) x = vd_ct (vd_ctM K) x := by
  unfold vd_ct
  cases hb : vd_in 0 9 x with
  | false => rw [if_neg (by decide), if_neg (by decide)]
  | true =>
    obtain ⟨c, h1, h2, rfl⟩ := vd_in_t hb
    rw [nI_clamp (show c < 2 ^ 31 by omega)]
    rcases (show c = 0 ∨ c = 1 ∨ c = 2 ∨ c = 3 ∨ c = 4 ∨ c = 5 ∨ c = 6 ∨ c = 7 ∨ c = 8 ∨ c = 9 by omega) with rfl | rfl | rfl | rfl | rfl | rfl | rfl | rfl | rfl | rfl
    all_goals rw [if_pos rfl, if_pos rfl]
    · exact congrArg nI (rl_b0 h)
    · exact congrArg nI (rl_b1 h hB)
    · exact congrArg nI (rl_b2 h hB)
    · exact congrArg nI (rl_b3 h hB)
    · exact congrArg nI h.1.1.symm
    · exact congrArg nI h.1.2.1.symm
    · exact congrArg nI (rl_here h).symm
    · exact congrArg nI h.1.2.2.symm
    · exact congrArg nI (rl_b8 h hB)
    · exact congrArg nI (rl_b9 h)
end
section
/-! PURE: operations that move HEAD -/
theorem vd_shw_o {K : KT} {c a : Nat} (h : a ≠ 14) : vd_shw K c a = K a := by
  unfold vd_shw vd_cp
  rw [vd_fl_o h, vd_fl_o h]
theorem vd_shw_14 {K : KT} {c b : Nat} (hc : c ≤ 30 ∨ c = 33) : vd_shw K c 14 b = if 496 ≤ b ∧ b < 512 then K 14 (16 * c + (b - 496)) else if 512 ≤ b ∧ b < 528 then K 14 (16 * c + (b - 512)) else K 14 b := by
  unfold vd_shw vd_cp
  rw [vd_fl_i, vd_fl_i]
  show (if 16 * 31 ≤ b ∧ b < 16 * 31 + 16 then (if 16 * 32 ≤ 16 * c + (b - 16 * 31) ∧ 16 * c + (b - 16 * 31) < 16 * 32 + 16 then K 14 (16 * c + (16 * c + (b - 16 * 31) - 16 * 32)) else K 14 (16 * c + (b - 16 * 31))) else if 16 * 32 ≤ b ∧ b < 16 * 32 + 16 then K 14 (16 * c + (b - 16 * 32)) else K 14 b) = _
  by_cases h1 : 496 ≤ b ∧ b < 512
  · rw [if_pos (by omega), if_pos h1, if_neg (by omega)]
  · rw [if_neg (by omega), if_neg h1]
theorem vd_mv_o {K : KT} {c a : Nat} (h0 : a ≠ 0) (h1 : a ≠ 1) (h3 : a ≠ 3) : vd_mv K c a = K a := by
  unfold vd_mv
  rw [vd_fl_o h0, vd_fl_o h1, vd_st_o h3]
theorem vd_mv_3 {K : KT} {c : Nat} : vd_mv K c 3 = fun b => if b = K 40 0 then c else K 3 b := by
  unfold vd_mv
  rw [vd_fl_o (by decide), vd_fl_o (by decide), vd_st_s]
theorem vd_mv_0 {K : KT} {c f : Nat} (hf : f < 16) : vd_mv K c 0 f = vd_cnt K c f := by
  unfold vd_mv
  rw [vd_fl_i]
  show (if 0 ≤ f ∧ f < 0 + 16 then vd_cnt K c (f - 0) else _) = _
  rw [if_pos (by omega)]
  rfl
theorem vd_mv_1 {K : KT} {c f : Nat} (hf : f < 16) : vd_mv K c 1 f = vd_cnt K c f := by
  unfold vd_mv
  rw [vd_fl_o (by decide), vd_fl_i]
  show (if 0 ≤ f ∧ f < 0 + 16 then vd_cnt K c (f - 0) else _) = _
  rw [if_pos (by omega)]
  rfl
/-- index and work are as c; contents, commits and objects stay -/
theorem rl_moved {K K2 : KT} {c : Nat} (h : vd_Rel K) (hc : c ≤ 30) (hs : ∀ a, a ∈ [43, 44, 45, 46, 47, 4, 5, 6, 7, 9, 10, 11, 12, 13, 15, 16, 17, 20] → K2 a = K a) (e0 : ∀ f, f < 16 → K2 0 f = vd_cnt K c f) (e1 : ∀ f, f < 16 → K2 1 f = vd_cnt K c f)
    (g0 : ∀ b, b < 496 → K2 14 b = K 14 b) (g1 : ∀ f, f < 16 → K2 14 (496 + f) = K 14 (16 * c + f)) (g2 : ∀ f, f < 16 → K2 14 (512 + f) = K 14 (16 * c + f)) (q1 : K2 48 0 = K2 40 0) (q2 : K2 49 0 = K2 41 0) (q3 : K2 18 = K2 3) (q4 : rl_C (K2 42 0) (K2 19)) (q5 : rl_T (K 43 0) (K2 41 0) (K2 3)) : vd_Rel K2 := by
  obtain ⟨r1, r2, r3, r4, r5, r6, r7, r8, r9, r10, r11, r12, r13⟩ := h
  unfold vd_Rel
  rw [hs 43 (by decide), hs 44 (by decide), hs 45 (by decide), hs 46 (by decide), hs 47 (by decide), hs 4 (by decide), hs 5 (by decide), hs 6 (by decide), hs 7 (by decide), hs 9 (by decide), hs 10 (by decide), hs 11 (by decide), hs 12 (by decide), hs 13 (by decide), hs 15 (by decide), hs 16 (by decide), hs 17 (by decide), hs 20 (by decide)]
  refine ⟨⟨r1.1, q1, q2⟩, ⟨q3, r2.2⟩, fun d f hd hf => ?_, fun f hf => ?_, fun f hf => ?_, q4, r7, r8, q5, r10, r11, r12, r13⟩
  · rw [g0 _ (by omega)]
    exact r3 d f hd hf
  · rw [g1 f hf, e0 f hf]
    exact r3 c f hc hf
  · rw [g2 f hf, e1 f hf]
    exact r3 c f hc hf
theorem vd_shw_lo {K : KT} {c b : Nat} (hc : c ≤ 30 ∨ c = 33) (hb : b < 496) : vd_shw K c 14 b = K 14 b := by rw [vd_shw_14 hc, if_neg (by omega), if_neg (by omega)]
theorem vd_shw_w {K : KT} {c f : Nat} (hc : c ≤ 30 ∨ c = 33) (hf : f < 16) : vd_shw K c 14 (496 + f) = K 14 (16 * c + f) := by rw [vd_shw_14 hc, if_pos (by omega), Nat.add_sub_cancel_left]
theorem vd_shw_x {K : KT} {c f : Nat} (hc : c ≤ 30 ∨ c = 33) (hf : f < 16) : vd_shw K c 14 (512 + f) = K 14 (16 * c + f) := by rw [vd_shw_14 hc, if_neg (by omega), if_pos (by omega), Nat.add_sub_cancel_left]
theorem rl_T_set {M g c i : Nat} {a3 : Nat → Nat} (h : rl_T M g a3) (hc : c ≤ M) : rl_T M g (fun b => if b = i then c else a3 b) := by
  refine ⟨fun b => ?_, h.2⟩
  show (if b = i then c else a3 b) ≤ M
  split
  · exact hc
  · exact h.1 b
/-- HEAD moves to c on both sides -/
theorem rl_mv {K : KT} {c : Nat} (h : vd_Rel K) (hB : vd_Bd K) (hc : c ≤ K 43 0) (K1 : KT) (e1 : K1 = vd_mv K c) : vd_Rel (vd_shw (vd_st K1 18 (K1 48 0) c) c) := by
  subst e1
  have hM : K 43 0 ≤ 30 := hB 43 0 (by decide)
  have h48 : vd_mv K c 48 0 = K 40 0 := h.1.2.1
  refine rl_moved h (c := c) (by omega) ?_ ?_ ?_ ?_ ?_ ?_ ?_ ?_ ?_ ?_ ?_
  · intro a ha
    simp only [List.mem_cons, List.not_mem_nil, or_false] at ha
    rw [vd_shw_o (by omega), vd_st_o (by omega), vd_mv_o (by omega) (by omega) (by omega)]
  · intro f hf
    rw [vd_shw_o (by decide), vd_st_o (by decide)]
    exact vd_mv_0 hf
  · intro f hf
    rw [vd_shw_o (by decide), vd_st_o (by decide)]
    exact vd_mv_1 hf
  · intro b hb
    rw [vd_shw_lo (Or.inl (by omega)) hb, vd_st_o (by decide), vd_mv_o (by decide) (by decide) (by decide)]
  · intro f hf
    rw [vd_shw_w (Or.inl (by omega)) hf, vd_st_o (by decide), vd_mv_o (by decide) (by decide) (by decide)]
  · intro f hf
    rw [vd_shw_x (Or.inl (by omega)) hf, vd_st_o (by decide), vd_mv_o (by decide) (by decide) (by decide)]
  · exact h.1.2.1
  · exact h.1.2.2
  · rw [vd_shw_o (by decide), vd_shw_o (by decide), vd_st_s, vd_st_o (by decide), vd_mv_3, h48, vd_mv_o (by decide) (by decide) (by decide), h.2.1.1]
  · exact h.2.2.2.2.2.1
  · rw [vd_shw_o (a := 3) (by decide), vd_st_o (a := 3) (by decide), vd_mv_3]
    exact rl_T_set h.2.2.2.2.2.2.2.2.1 hc
theorem op_reset {K : KT} (h : vd_Rel K) (hB : vd_Bd K) (x : Int32) (K1 : KT) (e1 : K1 = if vd_hol K x = false ∨ K 41 0 ≠ 0 then K else vd_mv K x.toNatClampNeg) :
    (if vd_hol K x = false ∨ K 41 0 ≠ 0 then (-1 : Int32) else nI 0) = (if vd_stoM K1 x = false ∨ K1 49 0 ≠ 0 then (-1 : Int32) else nI 0) ∧ vd_Rel (if vd_stoM K1 x = false ∨ K1 49 0 ≠ 0 then K1 else vd_shw (vd_st K1 18 (K1 48 0) x.toNatClampNeg) x.toNatClampNeg) := by
  have hs : vd_stoM K1 x = vd_hol K x := by
    rw [← rl_sto h, e1]
    split
    · rfl
    · rfl
  have h9 : K1 49 0 = K 41 0 := by
    rw [e1]
    split
    · exact h.1.2.2
    · exact h.1.2.2
  rw [hs, h9]
  refine ⟨rfl, ?_⟩
  by_cases hq : vd_hol K x = false ∨ K 41 0 ≠ 0
  · rw [if_pos hq]
    rw [if_pos hq] at e1
    rw [e1]
    exact h
  · rw [if_neg hq]
    rw [if_neg hq] at e1
    have hb : vd_hol K x = true := by
      cases hz : vd_hol K x with
      | true => rfl
      | false => exact absurd (Or.inl hz) hq
    obtain ⟨c, h1, h2, rfl, h3⟩ := vd_hol_t hb
    rw [nI_clamp (show c < 2 ^ 31 by omega)] at e1 ⊢
    exact rl_mv h hB (rl_hol_le h h1 h2 h3) K1 e1
theorem op_branch {K : KT} (h : vd_Rel K) (x : Int32) (K1 : KT) (e1 : K1 = if (vd_in 0 5 x && (K 3 x.toNatClampNeg == 0) && (vd_here K != 0)) = true then vd_st K 3 x.toNatClampNeg (vd_here K) else K) :
    (if (vd_in 0 5 x && (K 3 x.toNatClampNeg == 0) && (vd_here K != 0)) = true then nI 0 else (-1 : Int32)) = (if (vd_in 0 5 x && (K1 18 x.toNatClampNeg == 0) && (vd_hereM K1 != 0)) = true then nI 0 else (-1 : Int32)) ∧
    vd_Rel (if (vd_in 0 5 x && (K1 18 x.toNatClampNeg == 0) && (vd_hereM K1 != 0)) = true then vd_st K1 18 x.toNatClampNeg (vd_hereM K1) else K1) := by
  have e18 : K1 18 = K 3 := by
    rw [e1]
    split
    · exact h.2.1.1
    · exact h.2.1.1
  have eh : vd_hereM K1 = vd_here K := by
    rw [← rl_here h, e1]
    split
    · rfl
    · rfl
  rw [e18, eh]
  refine ⟨rfl, ?_⟩
  by_cases hq : (vd_in 0 5 x && (K 3 x.toNatClampNeg == 0) && (vd_here K != 0)) = true
  · rw [if_pos hq]
    rw [if_pos hq] at e1
    rw [e1]
    obtain ⟨r1, r2, r3, r4, r5, r6, r7, r8, r9, r10, r11, r12, r13⟩ := h
    refine ⟨r1, ⟨?_, r2.2⟩, r3, r4, r5, r6, r7, r8, ?_, r10, r11, r12, r13⟩
    · show (fun b => if b = x.toNatClampNeg then vd_here K else K 18 b) = (fun b => if b = x.toNatClampNeg then vd_here K else K 3 b)
      rw [r2.1]
    · exact rl_T_set r9 (r9.1 _)
  · rw [if_neg hq]
    rw [if_neg hq] at e1
    rw [e1]
    exact h
theorem op_remove {K : KT} (h : vd_Rel K) (x : Int32) (K1 : KT) (e1 : K1 = if vd_there K x = false ∨ x.toNatClampNeg = K 40 0 then K else vd_st K 3 x.toNatClampNeg 0) :
    (if vd_there K x = false ∨ x.toNatClampNeg = K 40 0 then (-1 : Int32) else nI 0) = (if vd_thM K1 x = false ∨ x.toNatClampNeg = K1 48 0 then (-1 : Int32) else nI 0) ∧ vd_Rel (if vd_thM K1 x = false ∨ x.toNatClampNeg = K1 48 0 then K1 else vd_st K1 18 x.toNatClampNeg 0) := by
  have ht : vd_thM K1 x = vd_there K x := by
    rw [← rl_there h, e1]
    split
    · rfl
    · rfl
  have h8 : K1 48 0 = K 40 0 := by
    rw [e1]
    split
    · exact h.1.2.1
    · exact h.1.2.1
  rw [ht, h8]
  refine ⟨rfl, ?_⟩
  by_cases hq : vd_there K x = false ∨ x.toNatClampNeg = K 40 0
  · rw [if_pos hq]
    rw [if_pos hq] at e1
    rw [e1]
    exact h
  · rw [if_neg hq]
    rw [if_neg hq] at e1
    rw [e1]
    obtain ⟨r1, r2, r3, r4, r5, r6, r7, r8, r9, r10, r11, r12, r13⟩ := h
    refine ⟨r1, ⟨?_, r2.2⟩, r3, r4, r5, r6, r7, r8, ?_, r10, r11, r12, r13⟩
    · show (fun b => if b = x.toNatClampNeg then 0 else K 18 b) = (fun b => if b = x.toNatClampNeg then 0 else K 3 b)
      rw [r2.1]
    · exact rl_T_set r9 (Nat.zero_le _)
theorem op_turn {K : KT} (h : vd_Rel K) (hB : vd_Bd K) (x : Int32) : vd_tuR K x = vd_tuRM (vd_tuK K x) x ∧ vd_Rel (vd_tuKM (vd_tuK K x) x) := by
  have hc1 : vd_thM (vd_tuK K x) x = vd_there K x := by
    rw [← rl_there h]
    unfold vd_tuK
    split
    · rfl
    · split
      · rfl
      · rfl
  have hc2 : vd_tuK K x 49 0 = K 41 0 := by
    unfold vd_tuK
    split
    · exact h.1.2.2
    · split
      · exact h.1.2.2
      · exact h.1.2.2
  have hc3 : vd_tidyM (vd_tuK K x) = vd_tidy K := by
    rw [← rl_tidy h hB]
    unfold vd_tuK
    split
    · rfl
    · split
      · rfl
      · rfl
  have hc4 : vd_tuK K x 18 = K 3 := by
    rw [← h.2.1.1]
    unfold vd_tuK
    split
    · rfl
    · split
      · rfl
      · rfl
  unfold vd_tuRM vd_tuKM
  rw [hc1, hc2, hc3, hc4]
  refine ⟨rfl, ?_⟩
  by_cases h1 : vd_there K x = false ∨ K 41 0 ≠ 0
  · rw [if_pos h1]
    unfold vd_tuK
    rw [if_pos h1]
    exact h
  · rw [if_neg h1]
    by_cases h2 : vd_tidy K = false
    · rw [if_pos h2]
      unfold vd_tuK
      rw [if_neg h1, if_pos h2]
      exact h
    · rw [if_neg h2]
      have hb : vd_there K x = true := by
        cases hz : vd_there K x with
        | true => rfl
        | false => exact absurd (Or.inl hz) h1
      obtain ⟨b, g1, g2, rfl, g3⟩ := vd_there_t hb
      have e : vd_tuK K (nI b) = vd_mv (vd_st K 40 0 b) (K 3 b) := by
        unfold vd_tuK
        rw [if_neg h1, if_neg h2, nI_clamp (show b < 2 ^ 31 by omega)]
      rw [e, nI_clamp (show b < 2 ^ 31 by omega)]
      have hM : K 43 0 ≤ 30 := hB 43 0 (by decide)
      have ht : K 3 b ≤ K 43 0 := h.2.2.2.2.2.2.2.2.1.1 b
      refine rl_moved h (c := K 3 b) (by omega) ?_ ?_ ?_ ?_ ?_ ?_ ?_ ?_ ?_ ?_ ?_
      · intro a ha
        simp only [List.mem_cons, List.not_mem_nil, or_false] at ha
        rw [vd_shw_o (by omega), vd_st_o (by omega), vd_mv_o (by omega) (by omega) (by omega), vd_st_o (by omega)]
      · intro f hf
        rw [vd_shw_o (by decide), vd_st_o (by decide)]
        exact vd_mv_0 hf
      · intro f hf
        rw [vd_shw_o (by decide), vd_st_o (by decide)]
        exact vd_mv_1 hf
      · intro q hq
        rw [vd_shw_lo (Or.inl (by omega)) hq, vd_st_o (by decide), vd_mv_o (by decide) (by decide) (by decide), vd_st_o (by decide)]
      · intro f hf
        rw [vd_shw_w (Or.inl (by omega)) hf, vd_st_o (by decide), vd_mv_o (by decide) (by decide) (by decide), vd_st_o (by decide)]
      · intro f hf
        rw [vd_shw_x (Or.inl (by omega)) hf, vd_st_o (by decide), vd_mv_o (by decide) (by decide) (by decide), vd_st_o (by decide)]
      · rfl
      · exact h.1.2.2
      · rw [vd_shw_o (by decide), vd_shw_o (by decide), vd_st_o (by decide), vd_st_o (by decide), vd_mv_3, vd_mv_o (by decide) (by decide) (by decide), vd_st_o (by decide), h.2.1.1]
        funext q
        show K 3 q = if q = (vd_st K 40 0 b) 40 0 then K 3 b else (vd_st K 40 0 b) 3 q
        rw [show (vd_st K 40 0 b) 40 0 = b from rfl]
        split
        · rename_i hq
          rw [hq]
        · rfl
      · exact h.2.2.2.2.2.1
      · rw [vd_shw_o (a := 3) (by decide), vd_st_o (a := 3) (by decide), vd_mv_3]
        exact rl_T_set h.2.2.2.2.2.2.2.2.1 ht
theorem op_abort {K : KT} (h : vd_Rel K) (hB : vd_Bd K) (K1 : KT) (e1 : K1 = if K 41 0 = 0 then K else vd_mv (vd_st (vd_st K 41 0 0) 42 0 0) (vd_here K)) :
    (if K 41 0 = 0 then (-1 : Int32) else nI 0) = (if K1 49 0 = 0 then (-1 : Int32) else nI 0) ∧ vd_Rel (if K1 49 0 = 0 then K1 else vd_shw (vd_fl (vd_st K1 49 0 0) 19 0 16 (fun _ => 0)) (vd_hereM K1)) := by
  have h9 : K1 49 0 = K 41 0 := by
    rw [e1]
    split
    · exact h.1.2.2
    · exact h.1.2.2
  have eh : vd_hereM K1 = vd_here K := by
    rw [← rl_here h, e1]
    split
    · rfl
    · rfl
  rw [h9, eh]
  refine ⟨rfl, ?_⟩
  by_cases hq : K 41 0 = 0
  · rw [if_pos hq]
    rw [if_pos hq] at e1
    rw [e1]
    exact h
  · rw [if_neg hq]
    rw [if_neg hq] at e1
    rw [e1]
    have hM : K 43 0 ≤ 30 := hB 43 0 (by decide)
    have ht := rl_hereM h
    refine rl_moved h (c := vd_here K) (by omega) ?_ ?_ ?_ ?_ ?_ ?_ ?_ ?_ ?_ ?_ ?_
    · intro a ha
      simp only [List.mem_cons, List.not_mem_nil, or_false] at ha
      rw [vd_shw_o (by omega), vd_fl_o (by omega), vd_st_o (by omega), vd_mv_o (by omega) (by omega) (by omega), vd_st_o (by omega), vd_st_o (by omega)]
    · intro f hf
      rw [vd_shw_o (by decide), vd_fl_o (by decide), vd_st_o (by decide)]
      exact vd_mv_0 hf
    · intro f hf
      rw [vd_shw_o (by decide), vd_fl_o (by decide), vd_st_o (by decide)]
      exact vd_mv_1 hf
    · intro q hq
      rw [vd_shw_lo (Or.inl (by omega)) hq, vd_fl_o (by decide), vd_st_o (by decide), vd_mv_o (by decide) (by decide) (by decide), vd_st_o (by decide), vd_st_o (by decide)]
    · intro f hf
      rw [vd_shw_w (Or.inl (by omega)) hf, vd_fl_o (by decide), vd_st_o (by decide), vd_mv_o (by decide) (by decide) (by decide), vd_st_o (by decide), vd_st_o (by decide)]
    · intro f hf
      rw [vd_shw_x (Or.inl (by omega)) hf, vd_fl_o (by decide), vd_st_o (by decide), vd_mv_o (by decide) (by decide) (by decide), vd_st_o (by decide), vd_st_o (by decide)]
    · exact h.1.2.1
    · rfl
    · rw [vd_shw_o (by decide), vd_shw_o (by decide), vd_fl_o (by decide), vd_fl_o (by decide), vd_st_o (by decide), vd_st_o (by decide), vd_mv_3, vd_mv_o (by decide) (by decide) (by decide), vd_st_o (by decide), vd_st_o (by decide), h.2.1.1]
      funext q
      show K 3 q = if q = K 40 0 then vd_here K else K 3 q
      split
      · rename_i hq
        rw [hq]
        rfl
      · rfl
    · intro f hf
      show (Nat.testBit 0 f = true) ↔ (if 0 ≤ f ∧ f < 0 + 16 then 0 else _) ≠ 0
      rw [if_pos (by omega), Nat.zero_testBit]
      simp
    · rw [vd_shw_o (a := 3) (by decide), vd_fl_o (a := 3) (by decide), vd_st_o (a := 3) (by decide), vd_mv_3]
      refine ⟨fun b => ?_, Nat.zero_le _⟩
      exact (rl_T_set (i := K 40 0) h.2.2.2.2.2.2.2.2.1 ht).1 b
end
section
/-! PURE: rows are kept. A table (last, numbers) of distinct rows -/
theorem vd_fs_spec (P : Nat → Bool) : ∀ n r, (∀ t, r ≤ t → t < vd_fs P r n → P t = false) ∧ (vd_fs P r n < r + n → P (vd_fs P r n) = true)
  | 0, r => ⟨fun t h1 h2 => absurd h2 (by show ¬ t < r; omega), fun h => absurd h (by show ¬ r < r + 0; omega)⟩
  | n + 1, r => by
    rw [vd_fs_s]
    by_cases hp : P r = true
    · rw [if_pos hp]
      exact ⟨fun t h1 h2 => by omega, fun _ => hp⟩
    · rw [if_neg hp]
      obtain ⟨i1, i2⟩ := vd_fs_spec P n (r + 1)
      refine ⟨fun t h1 h2 => ?_, fun h => i2 (by omega)⟩
      by_cases e : t = r
      · subst e
        simpa using hp
      · exact i1 t (by omega) h2
/-- what keep does to a table: r its answer, L the last row, a the numbers, v the row that is kept -/
theorem vd_keep_spec {K : KT} {nn ss la src f : Nat} (d1 : nn ≠ ss) (d2 : nn ≠ la) (d3 : ss ≠ la) :
    1 ≤ vd_row K nn la src f ∧ vd_row K nn la src f ≤ K la 0 + 1 ∧
    (vd_keep K nn ss la src f la 0 = if vd_row K nn la src f ≤ K la 0 then K la 0 else K la 0 + 1) ∧
    (∀ q, q < 4 → vd_keep K nn ss la src f nn (vd_row K nn la src f * 4 + q) = K src (f + q)) ∧
    (∀ i, i < (K la 0 + 1) * 4 → vd_keep K nn ss la src f nn i = K nn i) ∧
    (vd_keep K nn ss la src f ss = fun i => if i = vd_row K nn la src f then 1 else K ss i) ∧
    (∀ r, 1 ≤ r → r ≤ K la 0 → (∀ q, q < 4 → K nn (r * 4 + q) = K src (f + q)) → vd_row K nn la src f ≤ K la 0) := by
  obtain ⟨s1, s2⟩ := vd_fs_spec (fun r => vd_alk K nn src r f) (K la 0) 1
  have hle := vd_row_le K nn la src f
  have hge : 1 ≤ vd_row K nn la src f := vd_fs_ge _ _ _
  have hrow : vd_row K nn la src f = vd_fs (fun r => vd_alk K nn src r f) 1 (K la 0) := rfl
  rw [← hrow] at s1 s2
  generalize hr : vd_row K nn la src f = r at *
  have kK : vd_keep K nn ss la src f = vd_st (if K la 0 < r then vd_st (vd_fl K nn (r * 4) 4 (fun b => K src (f + b))) la 0 r else K) ss r 1 := by
    unfold vd_keep
    rw [hr]
  rw [kK]
  refine ⟨hge, hle, ?_, ?_, ?_, ?_, ?_⟩
  · rw [vd_st_o (fun e => d3 e.symm)]
    by_cases hc : K la 0 < r
    · rw [if_pos hc, if_neg (by omega), vd_st_s]
      show (if 0 = 0 then r else _) = _
      rw [if_pos rfl]
      omega
    · rw [if_neg hc, if_pos (by omega)]
  · intro q hq
    rw [vd_st_o d1]
    by_cases hc : K la 0 < r
    · rw [if_pos hc, vd_st_o d2, vd_fl_i]
      show (if r * 4 ≤ r * 4 + q ∧ r * 4 + q < r * 4 + 4 then K src (f + (r * 4 + q - r * 4)) else _) = _
      rw [if_pos (by omega), Nat.add_sub_cancel_left]
    · rw [if_neg hc]
      have := s2 (by omega)
      exact vd_eqn_i.mp this q hq
  · intro i hi
    rw [vd_st_o d1]
    by_cases hc : K la 0 < r
    · rw [if_pos hc, vd_st_o d2, vd_fl_i]
      show (if r * 4 ≤ i ∧ i < r * 4 + 4 then _ else _) = _
      rw [if_neg (by omega)]
    · rw [if_neg hc]
  · rw [vd_st_s]
    by_cases hc : K la 0 < r
    · rw [if_pos hc, vd_st_o d3, vd_fl_o (fun e => d1 e.symm)]
    · rw [if_neg hc]
  · intro t h1 h2 h3
    by_cases hc : r ≤ K la 0
    · exact hc
    · have := s1 t h1 (by omega)
      have h4 : vd_alk K nn src t f = true := vd_eqn_t h3
      rw [h4] at this
      exact absurd this (by decide)
/-! blobs as arrays alone -/
def bk9 (a : Nat → Nat) (x : Nat) : Nat → Nat := if x = 0 then a else fun b => if b = x / 64 then a (x / 64) ||| 2 ^ (x % 64) else a b
def bl20 (a : Nat → Nat) (x : Nat) : Nat → Nat := if x = 0 then a else fun b => if b = x then 1 else a b
theorem vd_bk_9 {K : KT} {x : Nat} : vd_bk K x 9 = bk9 (K 9) x := by
  unfold vd_bk bk9
  split
  · rfl
  · rw [vd_st_s]
theorem vd_bl_20 {K : KT} {x : Nat} : vd_bl K x 20 = bl20 (K 20) x := by
  unfold vd_bl bl20
  split
  · rfl
  · rw [vd_st_s]
theorem rl_B_1 {a9 a20 : Nat → Nat} {x : Nat} (h : rl_B a9 a20) (hx : x ≤ 9999) : rl_B (bk9 a9 x) (bl20 a20 x) := by
  unfold bk9 bl20
  by_cases h0 : x = 0
  · rw [if_pos h0, if_pos h0]
    exact h
  · rw [if_neg h0, if_neg h0]
    refine ⟨?_, fun z hz => ?_⟩
    · show (if 0 = x then 1 else a20 0) = 0
      rw [if_neg (fun e => h0 e.symm)]
      exact h.1
    · show ((if z / 64 = x / 64 then (a9 (x / 64) ||| 2 ^ (x % 64)) else a9 (z / 64)).testBit (z % 64) = true) ↔ (z < 10000 ∧ (if z = x then 1 else a20 z) ≠ 0)
      by_cases e : z = x
      · subst e
        rw [if_pos rfl, if_pos rfl, Nat.testBit_or, Nat.testBit_two_pow_self, Bool.or_true]
        exact ⟨fun _ => ⟨by omega, by decide⟩, fun _ => rfl⟩
      · rw [if_neg e]
        by_cases e2 : z / 64 = x / 64
        · rw [if_pos e2, Nat.testBit_or, Nat.testBit_two_pow, decide_eq_false (by omega), Bool.or_false, ← e2]
          exact h.2 z hz
        · rw [if_neg e2]
          exact h.2 z hz
def bks9 (a v : Nat → Nat) : Nat → Nat → Nat
  | 0 => a
  | n + 1 => bk9 (bks9 a v n) (v n)
def bls20 (a v : Nat → Nat) : Nat → Nat → Nat
  | 0 => a
  | n + 1 => bl20 (bls20 a v n) (v n)
theorem rl_B_n {a9 a20 v : Nat → Nat} (h : rl_B a9 a20) : ∀ n, (∀ i, i < n → v i ≤ 9999) → rl_B (bks9 a9 v n) (bls20 a20 v n)
  | 0, _ => h
  | n + 1, hv => rl_B_1 (rl_B_n h n (fun i hi => hv i (by omega))) (hv n (by omega))
theorem bks9_add (a v : Nat → Nat) (m : Nat) : ∀ n, bks9 (bks9 a v m) (fun i => v (m + i)) n = bks9 a v (m + n)
  | 0 => rfl
  | n + 1 => by
    show bk9 (bks9 (bks9 a v m) (fun i => v (m + i)) n) (v (m + n)) = bk9 (bks9 a v (m + n)) (v (m + n))
    rw [bks9_add a v m n]
theorem bks9_congr {a v v' : Nat → Nat} : ∀ {n : Nat}, (∀ i, i < n → v i = v' i) → bks9 a v n = bks9 a v' n
  | 0, _ => rfl
  | n + 1, h => by
    show bk9 (bks9 a v n) (v n) = bk9 (bks9 a v' n) (v' n)
    rw [bks9_congr (fun i hi => h i (by omega)), h n (by omega)]
theorem bls20_congr {a v v' : Nat → Nat} : ∀ {n : Nat}, (∀ i, i < n → v i = v' i) → bls20 a v n = bls20 a v' n
  | 0, _ => rfl
  | n + 1, h => by
    show bl20 (bls20 a v n) (v n) = bl20 (bls20 a v' n) (v' n)
    rw [bls20_congr (fun i hi => h i (by omega)), h n (by omega)]
theorem vd_bks_9 {K : KT} {src f : Nat} : ∀ n, vd_bks K src f n 9 = bks9 (K 9) (fun i => K src (f + i)) n
  | 0 => rfl
  | n + 1 => by
    show vd_bk (vd_bks K src f n) (K src (f + n)) 9 = _
    rw [vd_bk_9, vd_bks_9 n]
    rfl
theorem vd_bls_20 {K : KT} {o : Nat} : ∀ n, vd_bls K o n 20 = bls20 (K 20) (fun i => K 14 (o + i)) n
  | 0 => rfl
  | n + 1 => by
    show vd_bl (vd_bls K o n) (K 14 (o + n)) 20 = _
    rw [vd_bl_20, vd_bls_20 n]
    rfl
/-! a table of folders -/
def tb_F (L : Nat) (a10 : Nat → Nat) : Prop := (∀ q, q < 4 → a10 q = 0) ∧ (∀ r, 1 ≤ r → r ≤ L → ∃ q, q < 4 ∧ a10 (r * 4 + q) ≠ 0) ∧ (∀ r t, 1 ≤ r → r ≤ L → 1 ≤ t → t ≤ L → (∀ q, q < 4 → a10 (r * 4 + q) = a10 (t * 4 + q)) → r = t)
theorem vd_por_0 {K : KT} {src f : Nat} : ∀ n, vd_por K src f n = 0 ↔ ∀ q, q < n → K src (f + q) = 0
  | 0 => ⟨fun _ q hq => absurd hq (by omega), fun _ => rfl⟩
  | n + 1 => by
    show vd_por K src f n ||| K src (f + n) = 0 ↔ _
    rw [Nat.or_eq_zero_iff, vd_por_0 n]
    constructor
    · rintro ⟨h1, h2⟩ q hq
      by_cases e : q = n
      · subst e
        exact h2
      · exact h1 q (by omega)
    · intro h
      exact ⟨fun q hq => h q (by omega), h n (by omega)⟩
theorem vd_kf_step {K : KT} {src f : Nat} (hs : src ≠ 9 ∧ src ≠ 10 ∧ src ≠ 11 ∧ src ≠ 45) (ht : tb_F (K 45 0) (K 10)) :
    tb_F (vd_kfK K src f 45 0) (vd_kfK K src f 10) ∧ K 45 0 ≤ vd_kfK K src f 45 0 ∧ vd_kfK K src f 45 0 ≤ K 45 0 + 1 ∧ vd_kfr K src f ≤ vd_kfK K src f 45 0 ∧
    (∀ q, q < 4 → vd_kfK K src f 10 (vd_kfr K src f * 4 + q) = K src (f + q)) ∧ (∀ i, i < (K 45 0 + 1) * 4 → vd_kfK K src f 10 i = K 10 i) ∧
    (∀ t, 1 ≤ t → (vd_kfK K src f 11 t ≠ 0 ↔ (K 11 t ≠ 0 ∨ t = vd_kfr K src f))) ∧ vd_kfK K src f 9 = bks9 (K 9) (fun i => K src (f + i)) 4 ∧
    (∀ t, K 45 0 < t → t ≤ vd_kfK K src f 45 0 → t = vd_kfr K src f) := by
  unfold vd_kfK vd_kfr
  have o10 : vd_bks K src f 4 10 = K 10 := vd_bks_o _ _ _ (by decide) _
  have o11 : vd_bks K src f 4 11 = K 11 := vd_bks_o _ _ _ (by decide) _
  have o45 : vd_bks K src f 4 45 = K 45 := vd_bks_o _ _ _ (by decide) _
  have osr : vd_bks K src f 4 src = K src := vd_bks_o _ _ _ hs.1 _
  have o9 := vd_bks_9 (K := K) (src := src) (f := f) 4
  by_cases hz : vd_por K src f 4 = 0
  · rw [if_pos hz, if_pos hz, o10, o11, o45]
    have hv := (vd_por_0 (K := K) (src := src) (f := f) 4).mp hz
    refine ⟨ht, Nat.le_refl _, Nat.le_succ _, Nat.zero_le _, fun q hq => ?_, fun i _ => rfl, fun t h1 => ⟨fun h => Or.inl h, fun h => ?_⟩, o9, fun t h1 h2 => by omega⟩
    · rw [Nat.zero_mul, Nat.zero_add, ht.1 q hq, hv q hq]
    · rcases h with h | h
      · exact h
      · omega
  · rw [if_neg hz, if_neg hz]
    have hnz : ∃ q, q < 4 ∧ K src (f + q) ≠ 0 := Classical.byContradiction fun z => hz ((vd_por_0 4).mpr (fun q hq => Classical.byContradiction fun z2 => z ⟨q, hq, z2⟩))
    obtain ⟨k1, k2, k3, k4, k5, k6, k7⟩ := vd_keep_spec (K := vd_bks K src f 4) (nn := 10) (ss := 11) (la := 45) (src := src) (f := f) (by decide) (by decide) (by decide)
    rw [o45] at k2 k3 k5 k7
    rw [o10] at k5 k7
    rw [osr] at k4 k7
    rw [o11] at k6
    have k9 : vd_keep (vd_bks K src f 4) 10 11 45 src f 9 = vd_bks K src f 4 9 := vd_keep_o (by decide) (by decide) (by decide)
    rw [k9]
    generalize vd_row (vd_bks K src f 4) 10 45 src f = r at *
    generalize vd_keep (vd_bks K src f 4) 10 11 45 src f = K' at *
    have hL : K 45 0 ≤ K' 45 0 ∧ K' 45 0 ≤ K 45 0 + 1 ∧ r ≤ K' 45 0 := by
      rw [k3]
      split
      · omega
      · omega
    have hold : ∀ t q, 1 ≤ t → t ≤ K' 45 0 → q < 4 → t ≠ r → K' 10 (t * 4 + q) = K 10 (t * 4 + q) ∧ t ≤ K 45 0 := by
      intro t q h1 h2 h3 h4
      have h5 : t ≤ K 45 0 := by
        rw [k3] at h2
        by_cases hc : r ≤ K 45 0
        · rw [if_pos hc] at h2
          exact h2
        · rw [if_neg hc] at h2
          omega
      exact ⟨k5 _ (by omega), h5⟩
    refine ⟨⟨fun q hq => ?_, fun t h1 h2 => ?_, fun t u h1 h2 h3 h4 he => ?_⟩, hL.1, hL.2.1, hL.2.2, k4, k5, fun t h1 => ?_, o9, fun t h1 h2 => ?_⟩
    · rw [k5 q (by omega)]
      exact ht.1 q hq
    · by_cases e : t = r
      · subst e
        obtain ⟨q, hq, hn⟩ := hnz
        exact ⟨q, hq, by rw [k4 q hq]; exact hn⟩
      · have h5 := (hold t 0 h1 h2 (by omega) e).2
        obtain ⟨q, hq, hn⟩ := ht.2.1 t h1 h5
        exact ⟨q, hq, by rw [(hold t q h1 h2 hq e).1]; exact hn⟩
    · by_cases e : t = r
      · by_cases e2 : u = r
        · omega
        · have g := (hold u 0 h3 h4 (by omega) e2).2
          have hr := k7 u h3 g (fun q hq => by rw [← (hold u q h3 h4 hq e2).1, ← he q hq, e]; exact k4 q hq)
          subst e
          exact ht.2.2 t u h1 hr h3 g (fun q hq => by rw [← k5 _ (by omega), ← k5 _ (by omega)]; exact he q hq)
      · by_cases e2 : u = r
        · have g := (hold t 0 h1 h2 (by omega) e).2
          have hr := k7 t h1 g (fun q hq => by rw [← (hold t q h1 h2 hq e).1, he q hq, e2]; exact k4 q hq)
          subst e2
          exact ht.2.2 t u h1 g h3 hr (fun q hq => by rw [← k5 _ (by omega), ← k5 _ (by omega)]; exact he q hq)
        · exact ht.2.2 t u h1 (hold t 0 h1 h2 (by omega) e).2 h3 (hold u 0 h3 h4 (by omega) e2).2 (fun q hq => by rw [← (hold t q h1 h2 hq e).1, ← (hold u q h3 h4 hq e2).1]; exact he q hq)
    · rw [k6]
      show (if t = r then 1 else K 11 t) ≠ 0 ↔ _
      by_cases e : t = r
      · rw [if_pos e]
        exact ⟨fun _ => Or.inr e, fun _ => by decide⟩
      · rw [if_neg e]
        exact ⟨fun h => Or.inl h, fun h => h.elim id (fun z => absurd z e)⟩
    · rw [k3] at h2
      by_cases hc : r ≤ K 45 0
      · rw [if_pos hc] at h2
        omega
      · rw [if_neg hc] at h2
        omega
def tb_K (K0 K : KT) (src i : Nat) : Prop :=
  tb_F (K 45 0) (K 10) ∧ K0 45 0 ≤ K 45 0 ∧ K 45 0 ≤ K0 45 0 + i ∧ (∀ p, p < i → K 8 p ≤ K 45 0 ∧ ∀ q, q < 4 → K 10 (K 8 p * 4 + q) = K0 src (4 * p + q)) ∧
  (∀ j, j < (K0 45 0 + 1) * 4 → K 10 j = K0 10 j) ∧ (∀ t, 1 ≤ t → (K 11 t ≠ 0 ↔ (K0 11 t ≠ 0 ∨ ∃ p, p < i ∧ t = K 8 p))) ∧ K 9 = bks9 (K0 9) (fun j => K0 src j) (4 * i) ∧ (∀ t, K0 45 0 < t → t ≤ K 45 0 → ∃ p, p < i ∧ t = K 8 p)
theorem vd_kf_I {K0 : KT} {src : Nat} (hs : src = 1 ∨ src = 2) (ht : tb_F (K0 45 0) (K0 10)) : ∀ i, tb_K K0 (vd_kf K0 src i) src i
  | 0 => ⟨ht, Nat.le_refl _, Nat.le_refl _, fun p hp => absurd hp (by omega), fun _ _ => rfl, fun t _ => ⟨fun h => Or.inl h, fun h => h.elim id (fun ⟨p, hp, _⟩ => absurd hp (by omega))⟩, rfl, fun t h1 h2 => absurd h2 (by show ¬ t ≤ K0 45 0; omega)⟩
  | i + 1 => by
    obtain ⟨i1, i2, i3, i4, i5, i6, i7, i8⟩ := vd_kf_I hs ht i
    have osr : vd_kf K0 src i src = K0 src := vd_kf_o (by omega) (by omega) (by omega) (by omega) (by omega) i
    obtain ⟨s1, s2, s3, s4, s5, s6, s7, s8, s9⟩ := vd_kf_step (K := vd_kf K0 src i) (src := src) (f := i * 4) ⟨by omega, by omega, by omega, by omega⟩ i1
    have o8 : vd_kfK (vd_kf K0 src i) src (i * 4) 8 = vd_kf K0 src i 8 := vd_kfK_o (by decide) (by decide) (by decide) (by decide)
    rw [vd_kf_s]
    rw [osr] at s5 s8
    generalize vd_kfK (vd_kf K0 src i) src (i * 4) = K' at *
    generalize vd_kfr (vd_kf K0 src i) src (i * 4) = r at *
    generalize vd_kf K0 src i = K at *
    have e8 : ∀ p, vd_st K' 8 i r 8 p = if p = i then r else K 8 p := fun p => by rw [vd_st_s, o8]
    have e10 : vd_st K' 8 i r 10 = K' 10 := vd_st_o (by decide)
    have e11 : vd_st K' 8 i r 11 = K' 11 := vd_st_o (by decide)
    have e45 : vd_st K' 8 i r 45 = K' 45 := vd_st_o (by decide)
    have e9 : vd_st K' 8 i r 9 = K' 9 := vd_st_o (by decide)
    unfold tb_K
    rw [e10, e11, e45, e9]
    refine ⟨s1, by omega, by omega, fun p hp => ?_, fun j hj => ?_, fun t h1 => ?_, ?_, fun t h1 h2 => ?_⟩
    · rw [e8]
      by_cases e : p = i
      · rw [if_pos e]
        refine ⟨s4, fun q hq => ?_⟩
        rw [s5 q hq, e]
        congr 1
        omega
      · rw [if_neg e]
        obtain ⟨g1, g2⟩ := i4 p (by omega)
        refine ⟨by omega, fun q hq => ?_⟩
        rw [s6 _ (by omega)]
        exact g2 q hq
    · rw [s6 j (by omega)]
      exact i5 j hj
    · rw [s7 t h1, i6 t h1]
      constructor
      · rintro ((h | ⟨p, hp, h⟩) | h)
        · exact Or.inl h
        · exact Or.inr ⟨p, by omega, by rw [e8, if_neg (by omega)]; exact h⟩
        · exact Or.inr ⟨i, by omega, by rw [e8, if_pos rfl]; exact h⟩
      · rintro (h | ⟨p, hp, h⟩)
        · exact Or.inl (Or.inl h)
        · rw [e8] at h
          by_cases e : p = i
          · rw [if_pos e] at h
            exact Or.inr h
          · rw [if_neg e] at h
            exact Or.inl (Or.inr ⟨p, by omega, h⟩)
    · rw [s8, i7]
      have := bks9_add (K0 9) (fun j => K0 src j) (4 * i) 4
      rw [show 4 * (i + 1) = 4 * i + 4 by omega, ← this]
      refine bks9_congr (fun j _ => ?_)
      show K0 src (i * 4 + j) = K0 src (4 * i + j)
      congr 1
      omega
    · by_cases hl : t ≤ K 45 0
      · obtain ⟨p, g1, g2⟩ := i8 t h1 hl
        exact ⟨p, by omega, by rw [e8, if_neg (by omega)]; exact g2⟩
      · exact ⟨i, by omega, by rw [e8, if_pos rfl]; exact s9 t (by omega) h2⟩
/-- what make brings to the class's tables -/
theorem rl_make {K : KT} {src a b : Nat} (hs : src = 1 ∨ src = 2) (hB : vd_Bd K) (hm : K 43 0 < 30) (ha : a ≤ K 43 0) (hb : b ≤ K 43 0) (hR : rl_R (K 43 0) (K 45 0) (K 46 0) (K 4) (K 10) (K 12)) (hF : rl_F (K 44 0) (K 45 0) (K 4) (K 11) (K 12)) (hG : rl_G (K 44 0) (K 46 0) (K 4) (K 13)) (hS : ∀ c, 1 ≤ c → c ≤ 30 → (K 44 0).testBit c = true → c ≤ K 43 0) (K' : KT) (eK : K' = vd_mkK K src a b) :
    K' 43 0 = K 43 0 + 1 ∧ K' 44 0 = K 44 0 ||| 2 ^ (K 43 0 + 1) ∧ (K' 5 = fun c => if c = K 43 0 + 1 then a else K 5 c) ∧ (K' 6 = fun c => if c = K 43 0 + 1 then b else K 6 c) ∧
    (K' 7 = fun c => if c = K 43 0 + 1 then 2 ^ (K 43 0 + 1) ||| K 7 a ||| K 7 b else K 7 c) ∧ rl_R (K 43 0 + 1) (K' 45 0) (K' 46 0) (K' 4) (K' 10) (K' 12) ∧
    (∀ c f, c ≤ 30 → f < 16 → vd_cnt K' c f = if c = K 43 0 + 1 then K src f else vd_cnt K c f) ∧ rl_F (K' 44 0) (K' 45 0) (K' 4) (K' 11) (K' 12) ∧ rl_G (K' 44 0) (K' 46 0) (K' 4) (K' 13) ∧ K' 9 = bks9 (K 9) (fun j => K src j) 16 := by
  obtain ⟨R1, R2, R3, R4, R5, R6, R7, R8, R9, R10⟩ := hR
  -- the folders
  have hn0 : ∀ j, vd_st K 43 0 (K 43 0 + 1) j = if j = 43 then (fun x => if x = 0 then K 43 0 + 1 else K 43 x) else K j := fun j => rfl
  have ht : tb_F (vd_st K 43 0 (K 43 0 + 1) 45 0) (vd_st K 43 0 (K 43 0 + 1) 10) := ⟨R3, R8, R9⟩
  have hI := vd_kf_I hs ht 4
  have o43 : ∀ j, j ≠ 43 → vd_st K 43 0 (K 43 0 + 1) j = K j := fun j h => vd_st_o h
  generalize hK0 : vd_st K 43 0 (K 43 0 + 1) = K0 at *
  have hsrc : K0 src = K src := o43 src (by omega)
  obtain ⟨i1, i2, i3, i4, i5, i6, i7, i8⟩ := hI
  -- the root
  obtain ⟨k1, k2, k3, k4, k5, k6, k7⟩ := vd_keep_spec (K := vd_kf K0 src 4) (nn := 12) (ss := 13) (la := 46) (src := 8) (f := 0) (by decide) (by decide) (by decide)
  have f46 : vd_kf K0 src 4 46 = K 46 := by rw [vd_kf_o (by decide) (by decide) (by decide) (by decide) (by decide), o43 46 (by decide)]
  have f12 : vd_kf K0 src 4 12 = K 12 := by rw [vd_kf_o (by decide) (by decide) (by decide) (by decide) (by decide), o43 12 (by decide)]
  have f13 : vd_kf K0 src 4 13 = K 13 := by rw [vd_kf_o (by decide) (by decide) (by decide) (by decide) (by decide), o43 13 (by decide)]
  rw [f46] at k2 k3 k5 k7
  rw [f12] at k5 k7
  rw [f13] at k6
  have ekr : vd_krK K0 src = vd_keep (vd_kf K0 src 4) 12 13 46 8 0 := rfl
  have err : vd_krr K0 src = vd_row (vd_kf K0 src 4) 12 46 8 0 := rfl
  have ro : ∀ j, j ≠ 8 → j ≠ 9 → j ≠ 10 → j ≠ 11 → j ≠ 12 → j ≠ 13 → j ≠ 43 → j ≠ 45 → j ≠ 46 → vd_krK K0 src j = K j := fun j h8 h9 h10 h11 h12 h13 h43 h45 h46 => by rw [vd_krK_o h8 h9 h10 h11 h12 h13 h45 h46, o43 j h43]
  have r43 : vd_krK K0 src 43 0 = K 43 0 + 1 := by rw [vd_krK_43, ← hK0]; rfl
  have r9 : vd_krK K0 src 9 = vd_kf K0 src 4 9 := by rw [ekr]; exact vd_keep_o (by decide) (by decide) (by decide)
  have r10 : vd_krK K0 src 10 = vd_kf K0 src 4 10 := by rw [ekr]; exact vd_keep_o (by decide) (by decide) (by decide)
  have r11 : vd_krK K0 src 11 = vd_kf K0 src 4 11 := by rw [ekr]; exact vd_keep_o (by decide) (by decide) (by decide)
  have r45 : vd_krK K0 src 45 = vd_kf K0 src 4 45 := by rw [ekr]; exact vd_keep_o (by decide) (by decide) (by decide)
  have eK2 : K' = vd_st (vd_st (vd_st (vd_st (vd_st (vd_krK K0 src) 4 (K 43 0 + 1) (vd_krr K0 src)) 5 (K 43 0 + 1) a) 6 (K 43 0 + 1) b) 7 (K 43 0 + 1) (2 ^ (K 43 0 + 1) ||| K 7 a ||| K 7 b)) 44 0 (K 44 0 ||| 2 ^ (K 43 0 + 1)) := by
    rw [eK]
    unfold vd_mkK
    simp only [hK0]
    have q7 : vd_st (vd_st (vd_st (vd_krK K0 src) 4 (K 43 0 + 1) (vd_krr K0 src)) 5 (K 43 0 + 1) a) 6 (K 43 0 + 1) b 7 = K 7 := by
      rw [vd_st_o (by decide), vd_st_o (by decide), vd_st_o (by decide), ro 7 (by decide) (by decide) (by decide) (by decide) (by decide) (by decide) (by decide) (by decide) (by decide)]
    have q44 : vd_st (vd_st (vd_st (vd_krK K0 src) 4 (K 43 0 + 1) (vd_krr K0 src)) 5 (K 43 0 + 1) a) 6 (K 43 0 + 1) b 44 = K 44 := by
      rw [vd_st_o (by decide), vd_st_o (by decide), vd_st_o (by decide), ro 44 (by decide) (by decide) (by decide) (by decide) (by decide) (by decide) (by decide) (by decide) (by decide)]
    rw [q7, q44]
  rw [← ekr, ← err] at k4
  rw [← ekr] at k3 k5 k6
  rw [← err] at k1 k2 k3 k6 k7
  generalize vd_krr K0 src = rr at *
  have E43 : K' 43 0 = K 43 0 + 1 := by rw [eK2, vd_st_o (by decide), vd_st_o (by decide), vd_st_o (by decide), vd_st_o (by decide), vd_st_o (by decide)]; exact r43
  have E44 : K' 44 0 = K 44 0 ||| 2 ^ (K 43 0 + 1) := by rw [eK2, vd_st_s]; exact if_pos rfl
  have E5 : K' 5 = fun c => if c = K 43 0 + 1 then a else K 5 c := by rw [eK2, vd_st_o (by decide), vd_st_o (by decide), vd_st_o (by decide), vd_st_s, vd_st_o (by decide), ro 5 (by decide) (by decide) (by decide) (by decide) (by decide) (by decide) (by decide) (by decide) (by decide)]
  have E6 : K' 6 = fun c => if c = K 43 0 + 1 then b else K 6 c := by rw [eK2, vd_st_o (by decide), vd_st_o (by decide), vd_st_s, vd_st_o (by decide), vd_st_o (by decide), ro 6 (by decide) (by decide) (by decide) (by decide) (by decide) (by decide) (by decide) (by decide) (by decide)]
  have E7 : K' 7 = fun c => if c = K 43 0 + 1 then 2 ^ (K 43 0 + 1) ||| K 7 a ||| K 7 b else K 7 c := by rw [eK2, vd_st_o (by decide), vd_st_s, vd_st_o (by decide), vd_st_o (by decide), vd_st_o (by decide), ro 7 (by decide) (by decide) (by decide) (by decide) (by decide) (by decide) (by decide) (by decide) (by decide)]
  have E4 : K' 4 = fun c => if c = K 43 0 + 1 then rr else K 4 c := by rw [eK2, vd_st_o (by decide), vd_st_o (by decide), vd_st_o (by decide), vd_st_o (by decide), vd_st_s, ro 4 (by decide) (by decide) (by decide) (by decide) (by decide) (by decide) (by decide) (by decide) (by decide)]
  have Eo : ∀ j, j ≠ 4 → j ≠ 5 → j ≠ 6 → j ≠ 7 → j ≠ 44 → K' j = vd_krK K0 src j := fun j h4 h5 h6 h7 h44 => by rw [eK2, vd_st_o h44, vd_st_o h7, vd_st_o h6, vd_st_o h5, vd_st_o h4]
  have E9 : K' 9 = bks9 (K 9) (fun j => K src j) 16 := by
    rw [Eo 9 (by decide) (by decide) (by decide) (by decide) (by decide), r9, i7, o43 9 (by decide), hsrc]
  have E10 : K' 10 = vd_kf K0 src 4 10 := by rw [Eo 10 (by decide) (by decide) (by decide) (by decide) (by decide), r10]
  have E11 : K' 11 = vd_kf K0 src 4 11 := by rw [Eo 11 (by decide) (by decide) (by decide) (by decide) (by decide), r11]
  have E45 : K' 45 = vd_kf K0 src 4 45 := by rw [Eo 45 (by decide) (by decide) (by decide) (by decide) (by decide), r45]
  have E12 : K' 12 = vd_krK K0 src 12 := Eo 12 (by decide) (by decide) (by decide) (by decide) (by decide)
  have E13 : K' 13 = vd_krK K0 src 13 := Eo 13 (by decide) (by decide) (by decide) (by decide) (by decide)
  have E46 : K' 46 = vd_krK K0 src 46 := Eo 46 (by decide) (by decide) (by decide) (by decide) (by decide)
  rw [← E12] at k4 k5
  rw [← E13] at k6
  rw [← E46] at k3
  rw [← E10, ← E45] at i1 i4
  rw [← E45] at i2 i3 i8
  rw [← E10] at i5
  rw [← E11] at i6
  rw [o43 45 (by decide)] at i2 i3 i5 i8
  rw [o43 10 (by decide)] at i5
  rw [o43 11 (by decide)] at i6
  rw [hsrc] at i4
  generalize vd_kf K0 src 4 = G at *
  clear eK eK2 Eo E10 E11 E45 E12 E13 E46 r9 r10 r11 r45 r43 ro ekr err hn0 ht o43 hK0 i7 f46 f12 f13
  have n46 : K 46 0 ≤ K' 46 0 ∧ K' 46 0 ≤ K 46 0 + 1 ∧ rr ≤ K' 46 0 := by
    rw [k3]
    split
    · omega
    · omega
  have k4' : ∀ q, q < 4 → K' 12 (rr * 4 + q) = G 8 q := fun q hq => by rw [k4 q hq, Nat.zero_add]
  -- rows of roots other than rr are old
  have hold : ∀ t q, 1 ≤ t → t ≤ K' 46 0 → q < 4 → t ≠ rr → K' 12 (t * 4 + q) = K 12 (t * 4 + q) ∧ t ≤ K 46 0 := by
    intro t q h1 h2 h3 h4
    have h5 : t ≤ K 46 0 := by
      rw [k3] at h2
      by_cases hc : rr ≤ K 46 0
      · rw [if_pos hc] at h2
        exact h2
      · rw [if_neg hc] at h2
        omega
    exact ⟨k5 _ (by omega), h5⟩
  have hR' : rl_R (K 43 0 + 1) (K' 45 0) (K' 46 0) (K' 4) (K' 10) (K' 12) := by
    refine ⟨by omega, by omega, i1.1, fun q hq => ?_, fun c h1 h2 => ?_, fun c hc => ?_, fun r q hr hq => ?_, i1.2.1, i1.2.2, fun t u h1 h2 h3 h4 he => ?_⟩
    · rw [k5 q (by omega)]
      exact R4 q hq
    · rw [E4]
      show 1 ≤ (if c = K 43 0 + 1 then rr else K 4 c) ∧ (if c = K 43 0 + 1 then rr else K 4 c) ≤ K' 46 0
      by_cases e : c = K 43 0 + 1
      · rw [if_pos e]
        exact ⟨k1, n46.2.2⟩
      · rw [if_neg e]
        have := R5 c h1 (by omega)
        omega
    · rw [E4]
      show (if c = K 43 0 + 1 then rr else K 4 c) = 0
      rw [if_neg (by omega)]
      exact R6 c (by omega)
    · by_cases e : r = rr
      · rw [e, k4' q hq]
        exact (i4 q hq).1
      · by_cases e0 : r = 0
        · rw [e0, Nat.zero_mul, Nat.zero_add, k5 q (by omega), R4 q hq]
          exact Nat.zero_le _
        · obtain ⟨g1, g2⟩ := hold r q (by omega) hr hq e
          rw [g1]
          exact Nat.le_trans (R7 r q g2 hq) i2
    · by_cases e : t = rr
      · by_cases e2 : u = rr
        · omega
        · have g := (hold u 0 h3 h4 (by omega) e2).2
          have hr := k7 u h3 g (fun q hq => by rw [← (hold u q h3 h4 hq e2).1, ← he q hq, e, k4 q hq])
          rw [e] at he ⊢
          exact R10 rr u k1 hr h3 g (fun q hq => by rw [← k5 _ (by omega), ← k5 _ (by omega)]; exact he q hq)
      · by_cases e2 : u = rr
        · have g := (hold t 0 h1 h2 (by omega) e).2
          have hr := k7 t h1 g (fun q hq => by rw [← (hold t q h1 h2 hq e).1, he q hq, e2, k4 q hq])
          rw [e2] at he ⊢
          exact R10 t rr h1 g k1 hr (fun q hq => by rw [← k5 _ (by omega), ← k5 _ (by omega)]; exact he q hq)
        · exact R10 t u h1 (hold t 0 h1 h2 (by omega) e).2 h3 (hold u 0 h3 h4 (by omega) e2).2 (fun q hq => by rw [← (hold t q h1 h2 hq e).1, ← (hold u q h3 h4 hq e2).1]; exact he q hq)
  -- folders' numbers of old commits, and of the new one
  have fnO : ∀ c p, c ≠ K 43 0 + 1 → p < 4 → K' 12 (K' 4 c * 4 + p) = K 12 (K 4 c * 4 + p) := by
    intro c p hc hp
    rw [E4]
    show K' 12 ((if c = K 43 0 + 1 then rr else K 4 c) * 4 + p) = _
    rw [if_neg hc]
    have h4 : K 4 c ≤ K 46 0 := by
      by_cases h : c = 0 ∨ K 43 0 < c
      · rw [R6 c h]
        exact Nat.zero_le _
      · exact (R5 c (by omega) (by omega)).2
    exact k5 _ (by omega)
  have fnN : ∀ p, p < 4 → K' 12 (K' 4 (K 43 0 + 1) * 4 + p) = G 8 p := by
    intro p hp
    rw [E4]
    show K' 12 ((if K 43 0 + 1 = K 43 0 + 1 then rr else _) * 4 + p) = _
    rw [if_pos rfl]
    exact k4' p hp
  have fnL : ∀ c p, p < 4 → K 12 (K 4 c * 4 + p) ≤ K 45 0 := by
    intro c p hp
    by_cases h : c = 0 ∨ K 43 0 < c
    · rw [R6 c h, Nat.zero_mul, Nat.zero_add, R4 p hp]
      exact Nat.zero_le _
    · exact R7 _ _ (R5 c (by omega) (by omega)).2 hp
  have bitN : ∀ c, (K' 44 0).testBit c = true ↔ ((K 44 0).testBit c = true ∨ c = K 43 0 + 1) := by
    intro c
    rw [E44, Nat.testBit_or, Nat.testBit_two_pow, Bool.or_eq_true, decide_eq_true_eq]
    exact or_congr Iff.rfl ⟨fun e => e.symm, fun e => e.symm⟩
  refine ⟨E43, E44, E5, E6, E7, hR', fun c f hc hf => ?_, fun r h1 h2 => ?_, fun r h1 h2 => ?_, E9⟩
  · unfold vd_cnt
    by_cases e : c = K 43 0 + 1
    · rw [if_pos e, e, fnN _ (by omega), (i4 (f / 4) (by omega)).2 (f % 4) (by omega)]
      congr 1
      omega
    · rw [if_neg e, fnO c _ e (by omega)]
      have := fnL c (f / 4) (by omega)
      exact i5 _ (by omega)
  · rw [i6 r h1]
    constructor
    · rintro (h | ⟨p, hp, h⟩)
      · by_cases hl : r ≤ K 45 0
        · obtain ⟨c, g1, g2, g3, p, g4, g5⟩ := (hF r h1 hl).mp h
          have := hS c g1 g2 g3
          exact ⟨c, g1, g2, (bitN c).mpr (Or.inl g3), p, g4, by rw [fnO c p (by omega) g4]; exact g5⟩
        · obtain ⟨p, hp, h⟩ := i8 r (by omega) h2
          exact ⟨K 43 0 + 1, by omega, by omega, (bitN _).mpr (Or.inr rfl), p, hp, by rw [fnN p hp]; exact h.symm⟩
      · exact ⟨K 43 0 + 1, by omega, by omega, (bitN _).mpr (Or.inr rfl), p, hp, by rw [fnN p hp]; exact h.symm⟩
    · rintro ⟨c, g1, g2, g3, p, g4, g5⟩
      by_cases e : c = K 43 0 + 1
      · rw [e, fnN p g4] at g5
        exact Or.inr ⟨p, g4, g5.symm⟩
      · rw [fnO c p e g4] at g5
        have hl := fnL c p g4
        refine Or.inl ((hF r h1 (by omega)).mpr ⟨c, g1, g2, ?_, p, g4, g5⟩)
        rcases (bitN c).mp g3 with h | h
        · exact h
        · exact absurd h e
  · rw [k6]
    show (if r = rr then 1 else K 13 r) ≠ 0 ↔ _
    have e4 : ∀ c, c ≠ K 43 0 + 1 → K' 4 c = K 4 c := fun c hc => by rw [E4]; exact if_neg hc
    have e4n : K' 4 (K 43 0 + 1) = rr := by rw [E4]; exact if_pos rfl
    by_cases e : r = rr
    · rw [if_pos e]
      exact ⟨fun _ => ⟨K 43 0 + 1, by omega, by omega, (bitN _).mpr (Or.inr rfl), by rw [e4n, e]⟩, fun _ => by decide⟩
    · rw [if_neg e]
      have hl : r ≤ K 46 0 := (hold r 0 h1 h2 (by omega) e).2
      rw [hG r h1 hl]
      constructor
      · rintro ⟨c, g1, g2, g3, g4⟩
        have := hS c g1 g2 g3
        exact ⟨c, g1, g2, (bitN c).mpr (Or.inl g3), by rw [e4 c (by omega)]; exact g4⟩
      · rintro ⟨c, g1, g2, g3, g4⟩
        by_cases e2 : c = K 43 0 + 1
        · rw [e2, e4n] at g4
          exact absurd g4.symm e
        · rw [e4 c e2] at g4
          refine ⟨c, g1, g2, ?_, g4⟩
          rcases (bitN c).mp g3 with h | h
          · exact h
          · exact absurd h e2
end
section
/-! PURE: commit -/
theorem vd_mk_bit (P : Nat → Bool) : ∀ n i, (vd_mk P n).testBit i = (decide (i < n) && P i)
  | 0, i => by
    show (0 : Nat).testBit i = _
    rw [Nat.zero_testBit, decide_eq_false (by omega), Bool.false_and]
  | n + 1, i => by
    show (vd_mk P n ||| (if P n = true then 2 ^ n else 0)).testBit i = _
    rw [Nat.testBit_or, vd_mk_bit P n i]
    by_cases e : i = n
    · subst e
      rw [decide_eq_false (Nat.lt_irrefl i), Bool.false_and, Bool.false_or, decide_eq_true (Nat.lt_succ_self i), Bool.true_and]
      cases hp : P i with
      | true => rw [if_pos rfl, Nat.testBit_two_pow_self]
      | false => rw [if_neg (by decide), Nat.zero_testBit]
    · have z : (if P n = true then 2 ^ n else 0).testBit i = false := by
        split
        · rw [Nat.testBit_two_pow, decide_eq_false (fun h => e h.symm)]
        · exact Nat.zero_testBit i
      rw [z, Bool.or_false]
      by_cases h : i < n
      · rw [decide_eq_true h, decide_eq_true (by omega)]
      · rw [decide_eq_false h, decide_eq_false (by omega)]
theorem vd_mk_0 {P : Nat → Bool} {n : Nat} : vd_mk P n = 0 ↔ vd_cn P n = 0 := by
  constructor
  · intro h
    refine vd_cn_zero (fun i hi => ?_)
    have := vd_mk_bit P n i
    rw [h, Nat.zero_testBit, decide_eq_true hi, Bool.true_and] at this
    exact this.symm
  · intro h
    apply Nat.eq_of_testBit_eq
    intro i
    rw [vd_mk_bit, Nat.zero_testBit]
    by_cases hi : i < n
    · rw [vd_cn_0 h i hi, Bool.and_false]
    · rw [decide_eq_false hi, Bool.false_and]
theorem rl_cl0 {K : KT} (h : vd_Rel K) (hB : vd_Bd K) : vd_clM K = 0 ↔ K 42 0 = 0 := by
  rw [← rl_b8 h hB]
  unfold vd_pc
  constructor
  · intro z
    apply Nat.eq_of_testBit_eq
    intro i
    rw [Nat.zero_testBit]
    by_cases hi : i < 32
    · exact vd_cn_0 z i hi
    · exact Nat.testBit_lt_two_pow (Nat.lt_of_le_of_lt (hB 42 0 (by decide)) (Nat.lt_of_lt_of_le (show vd_ub 42 < 2 ^ 32 by decide) (Nat.pow_le_pow_right (by decide) (by omega))))
  · intro z
    rw [z]
    exact vd_cn_zero (fun i _ => Nat.zero_testBit i)
/-- the reference's make -/
theorem vd_mkM_spec {K : KT} {row one two : Nat} (G : KT) (eG : G = vd_mkM K row one two) :
    (G 47 = fun b => if b = 0 then K 47 0 + 1 else K 47 b) ∧ (G 15 = fun b => if b = K 47 0 + 1 then 1 else K 15 b) ∧ (G 16 = fun b => if b = K 47 0 + 1 then one else K 16 b) ∧ (G 17 = fun b => if b = K 47 0 + 1 then two else K 17 b) ∧
    G 20 = bls20 (K 20) (fun i => K 14 (16 * row + i)) 16 ∧ (G 14 = fun b => if 16 * (K 47 0 + 1) ≤ b ∧ b < 16 * (K 47 0 + 1) + 16 then K 14 (16 * row + (b - 16 * (K 47 0 + 1))) else K 14 b) ∧ (G 18 = fun b => if b = K 48 0 then K 47 0 + 1 else K 18 b) ∧
    (∀ j, j ≠ 14 → j ≠ 15 → j ≠ 16 → j ≠ 17 → j ≠ 18 → j ≠ 20 → j ≠ 47 → G j = K j) := by
  have e1 : G = vd_st (vd_bls (vd_st (vd_st (vd_st (vd_cp (vd_st K 47 0 (K 47 0 + 1)) row (K 47 0 + 1)) 15 (K 47 0 + 1) 1) 16 (K 47 0 + 1) one) 17 (K 47 0 + 1) two) (16 * (K 47 0 + 1)) 16) 18 (K 48 0) (K 47 0 + 1) := by
    rw [eG]
    unfold vd_mkM
    dsimp only
    rw [vd_bls_o (a := 48) _ _ (by decide)]
    rfl
  have o : ∀ j, j ≠ 18 → j ≠ 20 → j ≠ 17 → j ≠ 16 → j ≠ 15 → G j = vd_cp (vd_st K 47 0 (K 47 0 + 1)) row (K 47 0 + 1) j := fun j h18 h20 h17 h16 h15 => by
    rw [e1, vd_st_o h18, vd_bls_o _ _ h20, vd_st_o h17, vd_st_o h16, vd_st_o h15]
  have e14 : (vd_cp (vd_st K 47 0 (K 47 0 + 1)) row (K 47 0 + 1) 14 = fun b => if 16 * (K 47 0 + 1) ≤ b ∧ b < 16 * (K 47 0 + 1) + 16 then K 14 (16 * row + (b - 16 * (K 47 0 + 1))) else K 14 b) := by
    unfold vd_cp
    rw [vd_fl_i]
    rfl
  refine ⟨?_, ?_, ?_, ?_, ?_, ?_, ?_, ?_⟩
  · rw [o 47 (by decide) (by decide) (by decide) (by decide) (by decide)]
    rfl
  · rw [e1, vd_st_o (by decide), vd_bls_o _ _ (by decide), vd_st_o (by decide), vd_st_o (by decide)]
    rfl
  · rw [e1, vd_st_o (by decide), vd_bls_o _ _ (by decide), vd_st_o (by decide)]
    rfl
  · rw [e1, vd_st_o (by decide), vd_bls_o _ _ (by decide)]
    rfl
  · rw [e1, vd_st_o (by decide), vd_bls_20, vd_st_o (by decide), vd_st_o (by decide), vd_st_o (by decide), vd_st_o (by decide), vd_st_o (by decide), vd_st_o (by decide), e14]
    unfold vd_cp
    rw [vd_fl_o (by decide), vd_st_o (by decide)]
    refine bls20_congr (fun i hi => ?_)
    show (if 16 * (K 47 0 + 1) ≤ 16 * (K 47 0 + 1) + i ∧ 16 * (K 47 0 + 1) + i < 16 * (K 47 0 + 1) + 16 then K 14 (16 * row + (16 * (K 47 0 + 1) + i - 16 * (K 47 0 + 1))) else _) = _
    rw [if_pos (by omega), Nat.add_sub_cancel_left]
  · rw [o 14 (by decide) (by decide) (by decide) (by decide) (by decide), e14]
  · rw [e1, vd_st_s, vd_bls_o _ _ (by decide)]
    rfl
  · intro j h14 h15 h16 h17 h18 h20 h47
    rw [o j h18 h20 h17 h16 h15]
    unfold vd_cp
    rw [vd_fl_o h14, vd_st_o h47]
/-- both sides have made a commit -/
theorem rl_made {K K2 : KT} {src a b : Nat} (h : vd_Rel K) (hB : vd_Bd K) (hs : src = 1 ∨ src = 2) (hm : K 43 0 < 30) (ha : a ≤ K 43 0) (hb : b ≤ K 43 0) (Kc : KT) (eC : Kc = vd_mkK K src a b)
    (c1 : ∀ j, j ∈ [4, 5, 6, 7, 9, 10, 11, 12, 13, 43, 44, 45, 46] → K2 j = Kc j) (m47 : K2 47 0 = K 43 0 + 1) (m15 : K2 15 = fun c => if c = K 43 0 + 1 then 1 else K 15 c) (m16 : K2 16 = fun c => if c = K 43 0 + 1 then a else K 16 c) (m17 : K2 17 = fun c => if c = K 43 0 + 1 then b else K 17 c)
    (m20 : K2 20 = bls20 (K 20) (fun i => K src i) 16) (m14 : ∀ c f, c ≤ 30 → f < 16 → K2 14 (16 * c + f) = if c = K 43 0 + 1 then K src f else K 14 (16 * c + f))
    (q1 : K2 48 0 = K2 40 0) (q2 : K2 49 0 = K2 41 0) (q3 : K2 18 = K2 3) (w0 : rl_W 496 (K2 14) (K2 0)) (w1 : rl_W 512 (K2 14) (K2 1)) (q4 : rl_C (K2 42 0) (K2 19)) (q5 : rl_T (K 43 0 + 1) (K2 41 0) (K2 3)) : vd_Rel K2 := by
  obtain ⟨r1, r2, r3, r4, r5, r6, r7, r8, r9, r10, r11, r12, r13⟩ := h
  obtain ⟨E43, E44, E5, E6, E7, hR, hC, hF, hG, E9⟩ := rl_make hs hB hm ha hb r10 r11 r12 (fun c g1 g2 g3 => (r7.2 c g1 g2).2 g3) Kc eC
  have hv : ∀ i, i < 16 → K src i ≤ 9999 := fun i hi => by
    rcases hs with rfl | rfl
    · exact hB 1 i hi
    · exact hB 2 i hi
  unfold vd_Rel
  rw [c1 4 (by decide), c1 5 (by decide), c1 6 (by decide), c1 7 (by decide), c1 9 (by decide), c1 10 (by decide), c1 11 (by decide), c1 12 (by decide), c1 13 (by decide), c1 43 (by decide), c1 44 (by decide), c1 45 (by decide), c1 46 (by decide), E43, m47, m15, m16, m17, m20, E5, E6, E7, E9]
  refine ⟨⟨rfl, q1, q2⟩, ⟨q3, by rw [r2.2.1], by rw [r2.2.2]⟩, fun c f hc hf => ?_, w0, w1, q4, ?_, ?_, q5, hR, hF, hG, rl_B_n r13 16 hv⟩
  · rw [m14 c f hc hf]
    have := hC c f hc hf
    unfold vd_cnt at this
    rw [this]
    split
    · rfl
    · exact r3 c f hc hf
  · rw [E44]
    refine ⟨?_, fun c h1 h2 => ?_⟩
    · rw [Nat.testBit_or, r7.1, Nat.testBit_two_pow, decide_eq_false (by omega)]
      rfl
    · rw [Nat.testBit_or, Nat.testBit_two_pow]
      show ((_ || decide (K 43 0 + 1 = c)) = true ↔ (if c = K 43 0 + 1 then 1 else K 15 c) ≠ 0) ∧ _
      by_cases e : c = K 43 0 + 1
      · rw [if_pos e, decide_eq_true e.symm, Bool.or_true]
        exact ⟨⟨fun _ => by decide, fun _ => rfl⟩, fun _ => by omega⟩
      · rw [if_neg e, decide_eq_false (fun z => e z.symm), Bool.or_false]
        exact ⟨(r7.2 c h1 h2).1, fun z => Nat.le_succ_of_le ((r7.2 c h1 h2).2 z)⟩
  · refine ⟨?_, fun c h1 h2 => ?_⟩
    · show (if 0 = K 43 0 + 1 then _ else K 7 0) = 0
      rw [if_neg (by omega)]
      exact r8.1
    · show (if c = K 43 0 + 1 then a else K 5 c) < c ∧ (if c = K 43 0 + 1 then b else K 6 c) < c ∧ (if c = K 43 0 + 1 then 2 ^ (K 43 0 + 1) ||| K 7 a ||| K 7 b else K 7 c) = 2 ^ c ||| (if (if c = K 43 0 + 1 then a else K 5 c) = K 43 0 + 1 then _ else K 7 (if c = K 43 0 + 1 then a else K 5 c)) ||| (if (if c = K 43 0 + 1 then b else K 6 c) = K 43 0 + 1 then _ else K 7 (if c = K 43 0 + 1 then b else K 6 c))
      by_cases e : c = K 43 0 + 1
      · rw [if_pos e, if_pos e, if_pos e, if_neg (by omega), if_neg (by omega), e]
        exact ⟨by omega, by omega, rfl⟩
      · obtain ⟨g1, g2, g3⟩ := r8.2 c h1 (by omega)
        rw [if_neg e, if_neg e, if_neg e, if_neg (by omega), if_neg (by omega)]
        exact ⟨g1, g2, g3⟩
theorem vd_cmK_m {K : KT} {j : Nat} (h1 : 14 ≤ j) (h2 : j ≤ 22 ∨ 47 ≤ j) : vd_cmK K j = K j := by
  unfold vd_cmK
  split
  · rfl
  · split
    · rfl
    · split
      · rfl
      · rw [vd_st_o (by omega), vd_st_o (by omega), vd_mkK_o (by omega) (by omega) (by omega) (by omega) (by omega) (by omega) (by omega) (by omega) (by omega) (by omega) (by omega) (by omega) (by omega) (by omega)]
def vd_Iv (K : KT) : Prop := K 41 0 ≠ 0 → vd_here K ≠ 0
theorem op_commit {K : KT} (h : vd_Rel K) (hB : vd_Bd K) (hI : vd_Iv K) : vd_cmR K = vd_cmRM (vd_cmK K) ∧ vd_Rel (vd_cmKM (vd_cmK K)) := by
  have m : ∀ j, 14 ≤ j → (j ≤ 22 ∨ 47 ≤ j) → vd_cmK K j = K j := fun j h1 h2 => vd_cmK_m h1 h2
  have a1 : vd_clM (vd_cmK K) = vd_clM K := by unfold vd_clM; rw [m 19 (by decide) (by decide)]
  have a2 : vd_hereM (vd_cmK K) = vd_here K := by rw [← rl_here h]; unfold vd_hereM; rw [m 18 (by decide) (by decide), m 48 (by decide) (by decide)]
  have a3 : vd_same (vd_cmK K) 32 (vd_here K) = vd_ash K 1 := by rw [← rl_ash h hB, rl_here h]; unfold vd_same; rw [m 14 (by decide) (by decide)]
  have hM : K 43 0 ≤ 30 := hB 43 0 (by decide)
  have hT := rl_hereM h
  have h41 : K 41 0 ≤ K 43 0 := h.2.2.2.2.2.2.2.2.1.2
  have b1 : vd_cmK K 49 0 = K 41 0 := by rw [m 49 (by decide) (by decide)]; exact h.1.2.2
  have b2 : vd_cmK K 47 0 = K 43 0 := by rw [m 47 (by decide) (by decide)]; exact h.1.1
  have b3 : vd_clM K = 0 ↔ K 42 0 = 0 := rl_cl0 h hB
  unfold vd_cmR vd_cmRM vd_cmKM
  rw [a1, a2, a3, b1, b2]
  by_cases c1 : K 42 0 = 0
  · have n1 : ¬ K 42 0 ≠ 0 := fun z => z c1
    have n2 : ¬ vd_clM K ≠ 0 := fun z => z (b3.mpr c1)
    rw [if_neg n1, if_neg n2, if_neg n2]
    by_cases c2 : K 41 0 = 0 ∧ vd_ash K 1 = true
    · rw [if_pos c2, if_pos c2, if_pos c2]
      refine ⟨rfl, ?_⟩
      unfold vd_cmK
      rw [if_neg n1, if_pos c2]
      exact h
    · rw [if_neg c2, if_neg c2, if_neg c2]
      by_cases c3 : K 43 0 = 30
      · rw [if_pos (by omega), if_pos c3, if_pos c3]
        refine ⟨rfl, ?_⟩
        unfold vd_cmK
        rw [if_neg n1, if_neg c2, if_pos (by omega)]
        exact h
      · rw [if_neg (by omega), if_neg c3, if_neg c3]
        refine ⟨rfl, ?_⟩
        have one : (if vd_here K ≠ 0 then vd_here K else K 41 0) = vd_here K := by
          split
          · rfl
          · rename_i z
            by_cases z2 : K 41 0 = 0
            · omega
            · exact absurd (hI z2) z
        have two : (if vd_here K ≠ 0 then K 41 0 else 0) = K 41 0 := by
          split
          · rfl
          · rename_i z
            by_cases z2 : K 41 0 = 0
            · omega
            · exact absurd (hI z2) z
        rw [one, two]
        have eC : vd_cmK K = vd_st (vd_st (vd_mkK K 1 (vd_here K) (K 41 0)) 3 (K 40 0) (K 43 0 + 1)) 41 0 0 := by
          unfold vd_cmK
          rw [if_neg n1, if_neg c2, if_neg (by omega)]
        obtain ⟨g47, g15, g16, g17, g20, g14, g18, go⟩ := vd_mkM_spec (K := vd_st (vd_cmK K) 49 0 0) (row := 32) (one := vd_here K) (two := K 41 0) _ rfl
        generalize vd_mkM (vd_st (vd_cmK K) 49 0 0) 32 (vd_here K) (K 41 0) = G at *
        have o : ∀ j, j ≠ 49 → vd_st (vd_cmK K) 49 0 0 j = vd_cmK K j := fun j hj => vd_st_o hj
        rw [o 47 (by decide)] at g47 g15 g16 g17 g14 g18
        rw [o 15 (by decide)] at g15
        rw [o 16 (by decide)] at g16
        rw [o 17 (by decide)] at g17
        rw [o 20 (by decide), o 14 (by decide)] at g20
        rw [o 14 (by decide)] at g14
        rw [o 18 (by decide), o 48 (by decide)] at g18
        rw [m 47 (by decide) (by decide), h.1.1] at g47 g15 g16 g17 g14 g18
        rw [m 15 (by decide) (by decide)] at g15
        rw [m 16 (by decide) (by decide)] at g16
        rw [m 17 (by decide) (by decide)] at g17
        rw [m 20 (by decide) (by decide), m 14 (by decide) (by decide)] at g20
        rw [m 14 (by decide) (by decide)] at g14
        rw [m 18 (by decide) (by decide), m 48 (by decide) (by decide), h.1.2.1, h.2.1.1] at g18
        have c0 : ∀ j, j ≠ 41 → j ≠ 3 → j ∉ [14, 15, 16, 17, 18, 20, 47, 49] → G j = vd_mkK K 1 (vd_here K) (K 41 0) j := fun j h41 h3 hn => by
          simp only [List.mem_cons, List.not_mem_nil, or_false, not_or] at hn
          rw [go j hn.1 hn.2.1 hn.2.2.1 hn.2.2.2.1 hn.2.2.2.2.1 hn.2.2.2.2.2.1 hn.2.2.2.2.2.2.1, o j hn.2.2.2.2.2.2.2, eC, vd_st_o h41, vd_st_o h3]
        have c3' : G 3 = fun b => if b = K 40 0 then K 43 0 + 1 else K 3 b := by
          rw [go 3 (by decide) (by decide) (by decide) (by decide) (by decide) (by decide) (by decide), o 3 (by decide), eC, vd_st_o (by decide), vd_st_s, vd_mkK_3]
        have c41 : G 41 0 = 0 := by
          rw [go 41 (by decide) (by decide) (by decide) (by decide) (by decide) (by decide) (by decide), o 41 (by decide), eC, vd_st_s]
          rfl
        have ko : ∀ j, j ∈ [0, 1, 40, 42] → G j = K j := fun j hj => by
          simp only [List.mem_cons, List.not_mem_nil, or_false] at hj
          rw [c0 j (by omega) (by omega) (by simp only [List.mem_cons, List.not_mem_nil, or_false, not_or]; omega), vd_mkK_o (by omega) (by omega) (by omega) (by omega) (by omega) (by omega) (by omega) (by omega) (by omega) (by omega) (by omega) (by omega) (by omega) (by omega)]
        have g14' : ∀ b, 496 ≤ b → G 14 b = K 14 b := fun b hb => by
          rw [g14]
          exact if_neg (by omega)
        refine rl_made h hB (Or.inl rfl) (by omega) hT h41 _ rfl ?_ ?_ g15 g16 g17 ?_ ?_ ?_ ?_ ?_ ?_ ?_ ?_ ?_
        · intro j hj
          simp only [List.mem_cons, List.not_mem_nil, or_false] at hj
          exact c0 j (by omega) (by omega) (by simp only [List.mem_cons, List.not_mem_nil, or_false, not_or]; omega)
        · rw [g47]
          rfl
        · rw [g20]
          exact bls20_congr (fun i hi => h.2.2.2.2.1 i hi)
        · intro c f hc hf
          rw [g14]
          show (if 16 * (K 43 0 + 1) ≤ 16 * c + f ∧ 16 * c + f < 16 * (K 43 0 + 1) + 16 then K 14 (16 * 32 + (16 * c + f - 16 * (K 43 0 + 1))) else K 14 (16 * c + f)) = _
          by_cases e : c = K 43 0 + 1
          · rw [if_pos (by omega), if_pos e, e, Nat.add_sub_cancel_left]
            exact h.2.2.2.2.1 f hf
          · rw [if_neg (by omega), if_neg e]
        · rw [go 48 (by decide) (by decide) (by decide) (by decide) (by decide) (by decide) (by decide), o 48 (by decide), m 48 (by decide) (by decide), ko 40 (by decide)]
          exact h.1.2.1
        · rw [go 49 (by decide) (by decide) (by decide) (by decide) (by decide) (by decide) (by decide), c41]
          rfl
        · rw [g18, c3']
        · intro f hf
          rw [g14' _ (by omega), ko 0 (by decide)]
          exact h.2.2.2.1 f hf
        · intro f hf
          rw [g14' _ (by omega), ko 1 (by decide)]
          exact h.2.2.2.2.1 f hf
        · rw [ko 42 (by decide), go 19 (by decide) (by decide) (by decide) (by decide) (by decide) (by decide) (by decide), o 19 (by decide), m 19 (by decide) (by decide)]
          exact h.2.2.2.2.2.1
        · rw [c41, c3']
          refine rl_T_set ⟨fun b => ?_, Nat.zero_le _⟩ (Nat.le_refl _)
          exact Nat.le_succ_of_le (h.2.2.2.2.2.2.2.2.1.1 b)
  · have n2 : vd_clM K ≠ 0 := fun z => c1 (b3.mp z)
    rw [if_pos c1, if_pos n2, if_pos n2]
    refine ⟨rfl, ?_⟩
    unfold vd_cmK
    rw [if_pos c1]
    exact h
end
section
/-! PURE: merge and pick -/
theorem vd_mxl_f (K : KT) (x y z w : Nat) : ∀ i f, f < i → vd_mxl K x y z w i 14 (528 + f) = vd_xmv K x y z f
  | 0, f, h => absurd h (Nat.not_lt_zero f)
  | i + 1, f, h => by
    have e : vd_mxl K x y z w (i + 1) 14 (528 + f) = if 528 + f = 528 + i then vd_xmv K x y z i else vd_mxl K x y z w i 14 (528 + f) := by
      rw [vd_mxl_s]
      split
      · rw [vd_st_o (by decide), vd_st_s]
      · rw [vd_st_s]
    rw [e]
    by_cases hf : f = i
    · rw [if_pos (by omega), hf]
    · rw [if_neg (by omega)]
      exact vd_mxl_f K x y z w i f (by omega)
theorem vd_mxl_19 (K : KT) (x y z : Nat) : ∀ i, vd_mxl K x y z 0 i 19 = K 19
  | 0 => rfl
  | i + 1 => by
    rw [vd_mxl_s, if_neg (fun h => h rfl), vd_st_o (by decide)]
    exact vd_mxl_19 K x y z i
theorem vd_mxl_c (K : KT) (x y z : Nat) : ∀ i f, f < i → vd_mxl K x y z 1 i 19 f = (vd_xcl K x y z f).toNat
  | 0, f, h => absurd h (Nat.not_lt_zero f)
  | i + 1, f, h => by
    have e : vd_mxl K x y z 1 (i + 1) 19 f = if f = i then (vd_xcl K x y z i).toNat else vd_mxl K x y z 1 i 19 f := by
      rw [vd_mxl_s, if_pos (by decide), vd_st_s, vd_st_o (by decide)]
    rw [e]
    by_cases hf : f = i
    · rw [if_pos hf, hf]
    · rw [if_neg hf]
      exact vd_mxl_c K x y z i f (by omega)
theorem vd_xmv_of {K S : KT} (e : S 14 = K 14) (x y z f : Nat) : vd_xmv S x y z f = vd_xmv K x y z f := by
  unfold vd_xmv
  rw [e]
theorem vd_xmv_lo {K S : KT} {x y z f : Nat} (e : ∀ b, b < 528 → S 14 b = K 14 b) (hx : x ≤ 30) (hy : y ≤ 30) (hz : z ≤ 30) (hf : f < 16) : vd_xmv S x y z f = vd_xmv K x y z f := by
  unfold vd_xmv
  rw [e _ (by omega), e _ (by omega), e _ (by omega)]
theorem vd_xcl_lo {K S : KT} {x y z f : Nat} (e : ∀ b, b < 528 → S 14 b = K 14 b) (hx : x ≤ 30) (hy : y ≤ 30) (hz : z ≤ 30) (hf : f < 16) : vd_xcl S x y z f = vd_xcl K x y z f := by
  unfold vd_xcl
  rw [e _ (by omega), e _ (by omega), e _ (by omega)]
theorem rl_xmv {K : KT} (h : vd_Rel K) (hB : vd_Bd K) {o b f : Nat} (ho : o ≤ 30) (hb : b ≤ 30) (hf : f < 16) : vd_xmv K (vd_here K) o b f = vd_mixv K o b f := by
  have hh : vd_here K ≤ 30 := Nat.le_trans (rl_hereM h) (hB 43 0 (by decide))
  unfold vd_xmv vd_mixv
  rw [rl_cnt h.2.2.1 hh hf, rl_cnt h.2.2.1 ho hf, rl_cnt h.2.2.1 hb hf]
theorem rl_xcl {K : KT} (h : vd_Rel K) (hB : vd_Bd K) {o b f : Nat} (ho : o ≤ 30) (hb : b ≤ 30) (hf : f < 16) : vd_xcl K (vd_here K) o b f = vd_clash K o b f := by
  have hh : vd_here K ≤ 30 := Nat.le_trans (rl_hereM h) (hB 43 0 (by decide))
  unfold vd_xcl vd_clash
  rw [rl_cnt h.2.2.1 hh hf, rl_cnt h.2.2.1 ho hf, rl_cnt h.2.2.1 hb hf]
theorem vd_mix_2 {K : KT} {o b f : Nat} (hf : f < 16) : vd_mix K o b 2 f = vd_mixv K o b f := by
  unfold vd_mix
  rw [vd_fl_i]
  show (if 0 ≤ f ∧ f < 0 + 16 then vd_mixv K o b (f - 0) else _) = _
  rw [if_pos (by omega)]
  rfl
theorem vd_mix_o {K : KT} {o b a : Nat} (h : a ≠ 2) : vd_mix K o b a = K a := vd_fl_o h
theorem vd_cntB {K : KT} (h : vd_Rel K) (hB : vd_Bd K) {c f : Nat} (hc : c ≤ 30) (hf : f < 16) : vd_cnt K c f ≤ 9999 := by
  rw [← rl_cnt h.2.2.1 hc hf]
  exact hB 14 (16 * c + f) (by show 16 * c + f < 544; omega)
theorem vd_mixB {K : KT} (h : vd_Rel K) (hB : vd_Bd K) {o b : Nat} (ho : o ≤ 30) : vd_Bd (vd_mix K o b) := by
  have hh : vd_here K ≤ 30 := Nat.le_trans (rl_hereM h) (hB 43 0 (by decide))
  unfold vd_mix
  refine vd_Bd.sa hB (fun f hf => ?_)
  have hf : f < 16 := hf
  show (if 0 ≤ f ∧ f < 0 + 16 then vd_mixv K o b (f - 0) else _) ≤ 9999
  rw [if_pos (by omega)]
  show vd_mixv K o b f ≤ 9999
  unfold vd_mixv
  split
  · exact vd_cntB h hB ho hf
  · exact vd_cntB h hB hh hf
theorem vd_xn_0 {K S : KT} (h : vd_Rel K) (hB : vd_Bd K) {o b : Nat} (ho : o ≤ 30) (hb : b ≤ 30) (e : S 14 = K 14) : vd_xn S (vd_here K) o b = 0 ↔ vd_mask K o b = 0 := by
  have hh : vd_here K ≤ 30 := Nat.le_trans (rl_hereM h) (hB 43 0 (by decide))
  unfold vd_mask
  rw [vd_mk_0]
  unfold vd_xn
  rw [vd_cn_congr (P' := fun f => vd_clash K o b f) (fun f hf => by
    rw [vd_xcl_lo (fun b _ => by rw [e]) hh ho hb hf, rl_xcl h hB ho hb hf])]
/-- index and work are set, the rest stays -/
theorem rl_set {K K2 : KT} (h : vd_Rel K) (hs : ∀ a, a ∈ [43, 44, 45, 46, 47, 4, 5, 6, 7, 9, 10, 11, 12, 13, 15, 16, 17, 20] → K2 a = K a)
    (g0 : ∀ b, b < 496 → K2 14 b = K 14 b) (w0 : rl_W 496 (K2 14) (K2 0)) (w1 : rl_W 512 (K2 14) (K2 1)) (q1 : K2 48 0 = K2 40 0) (q2 : K2 49 0 = K2 41 0) (q3 : K2 18 = K2 3) (q4 : rl_C (K2 42 0) (K2 19)) (q5 : rl_T (K 43 0) (K2 41 0) (K2 3)) : vd_Rel K2 := by
  obtain ⟨r1, r2, r3, r4, r5, r6, r7, r8, r9, r10, r11, r12, r13⟩ := h
  unfold vd_Rel
  rw [hs 43 (by decide), hs 44 (by decide), hs 45 (by decide), hs 46 (by decide), hs 47 (by decide), hs 4 (by decide), hs 5 (by decide), hs 6 (by decide), hs 7 (by decide), hs 9 (by decide), hs 10 (by decide), hs 11 (by decide), hs 12 (by decide), hs 13 (by decide), hs 15 (by decide), hs 16 (by decide), hs 17 (by decide), hs 20 (by decide)]
  refine ⟨⟨r1.1, q1, q2⟩, ⟨q3, r2.2⟩, fun d f hd hf => ?_, w0, w1, q4, r7, r8, q5, r10, r11, r12, r13⟩
  rw [g0 _ (by omega)]
  exact r3 d f hd hf
/-- the mixtures alone have changed -/
theorem rl_mixed {K S K2 : KT} {o b : Nat} (h : vd_Rel K) (hS : ∀ a, a ≠ 2 → a ≠ 21 → a ≠ 22 → S a = K a) (x : Nat) (e2 : K2 = vd_mxl S x o b 0 16) : vd_Rel K2 := by
  have o1 : ∀ a, a ≠ 2 → a ≠ 14 → a ≠ 19 → a ≠ 21 → a ≠ 22 → K2 a = K a := fun a h2 h14 h19 h21 h22 => by rw [e2, vd_mxl_o _ _ _ _ _ h14 h19, hS a h2 h21 h22]
  have e19 : K2 19 = K 19 := by rw [e2, vd_mxl_19, hS 19 (by decide) (by decide) (by decide)]
  have e14 : ∀ b, b < 528 → K2 14 b = K 14 b := fun q hq => by rw [e2, vd_mxl_14 _ _ _ _ _ hq, hS 14 (by decide) (by decide) (by decide)]
  refine rl_set h (fun a ha => ?_) (fun q hq => e14 q (by omega)) (fun f hf => ?_) (fun f hf => ?_) ?_ ?_ ?_ ?_ ?_
  · simp only [List.mem_cons, List.not_mem_nil, or_false] at ha
    exact o1 a (by omega) (by omega) (by omega) (by omega) (by omega)
  · rw [e14 _ (by omega), o1 0 (by decide) (by decide) (by decide) (by decide) (by decide)]
    exact h.2.2.2.1 f hf
  · rw [e14 _ (by omega), o1 1 (by decide) (by decide) (by decide) (by decide) (by decide)]
    exact h.2.2.2.2.1 f hf
  · rw [o1 48 (by decide) (by decide) (by decide) (by decide) (by decide), o1 40 (by decide) (by decide) (by decide) (by decide) (by decide)]
    exact h.1.2.1
  · rw [o1 49 (by decide) (by decide) (by decide) (by decide) (by decide), o1 41 (by decide) (by decide) (by decide) (by decide) (by decide)]
    exact h.1.2.2
  · rw [o1 18 (by decide) (by decide) (by decide) (by decide) (by decide), o1 3 (by decide) (by decide) (by decide) (by decide) (by decide)]
    exact h.2.1.1
  · rw [o1 42 (by decide) (by decide) (by decide) (by decide) (by decide), e19]
    exact h.2.2.2.2.2.1
  · rw [o1 41 (by decide) (by decide) (by decide) (by decide) (by decide), o1 3 (by decide) (by decide) (by decide) (by decide) (by decide)]
    exact h.2.2.2.2.2.2.2.2.1
/-- both sides have made a commit of the mixture and moved to it -/
theorem rl_mixmade {K S K1 K2 G : KT} {o b p2 : Nat} (h : vd_Rel K) (hB : vd_Bd K) (hm : K 43 0 < 30) (ho : o ≤ 30) (hb : b ≤ 30) (hp : p2 ≤ K 43 0) (e1 : K1 = vd_mv (vd_mkK (vd_mix K o b) 2 (vd_here K) p2) (K 43 0 + 1)) (hS : ∀ a, a ≠ 21 → a ≠ 22 → S a = K1 a)
    (e2 : K2 = vd_mxl S (vd_here K) o b 0 16) (eG : G = vd_mkM K2 33 (vd_here K) p2) : vd_hereM G = K 43 0 + 1 ∧ vd_Rel (vd_shw G (K 43 0 + 1)) := by
  have hh : vd_here K ≤ K 43 0 := rl_hereM h
  have hX : vd_Rel (vd_mix K o b) := h
  have hXB := vd_mixB h hB (o := o) (b := b) ho
  have mk := rl_make (K := vd_mix K o b) (Or.inr rfl) hXB hm hh hp hX.2.2.2.2.2.2.2.2.2.1 hX.2.2.2.2.2.2.2.2.2.2.1 hX.2.2.2.2.2.2.2.2.2.2.2.1 (fun c g1 g2 g3 => (hX.2.2.2.2.2.2.1.2 c g1 g2).2 g3) (vd_mkK (vd_mix K o b) 2 (vd_here K) p2) rfl
  have hcn : ∀ f, f < 16 → vd_cnt (vd_mkK (vd_mix K o b) 2 (vd_here K) p2) (K 43 0 + 1) f = vd_mixv K o b f := fun f hf => by
    rw [mk.2.2.2.2.2.2.1 (K 43 0 + 1) f (by omega) hf]
    rw [show (vd_mix K o b) 43 0 = K 43 0 from rfl, if_pos rfl]
    exact vd_mix_2 hf
  have kc : ∀ j, j ∈ [0, 1, 3, 40, 41, 42] ∨ (14 ≤ j ∧ (j ≤ 22 ∨ 47 ≤ j)) → vd_mkK (vd_mix K o b) 2 (vd_here K) p2 j = K j := fun j hj => by
    simp only [List.mem_cons, List.not_mem_nil, or_false] at hj
    rw [vd_mkK_o (by omega) (by omega) (by omega) (by omega) (by omega) (by omega) (by omega) (by omega) (by omega) (by omega) (by omega) (by omega) (by omega) (by omega), vd_mix_o (by omega)]
  generalize hKc : vd_mkK (vd_mix K o b) 2 (vd_here K) p2 = Kc at *
  have k1o : ∀ j, 14 ≤ j → (j ≤ 22 ∨ 47 ≤ j) → K1 j = K j := fun j g1 g2 => by rw [e1, vd_mv_o (by omega) (by omega) (by omega), kc j (Or.inr ⟨g1, g2⟩)]
  have s14 : S 14 = K 14 := by rw [hS 14 (by decide) (by decide), k1o 14 (by decide) (by decide)]
  have k2o : ∀ j, j ≠ 14 → j ≠ 19 → j ≠ 21 → j ≠ 22 → K2 j = K1 j := fun j g1 g2 g3 g4 => by rw [e2, vd_mxl_o _ _ _ _ _ g1 g2, hS j g3 g4]
  have k14 : ∀ q, q < 528 → K2 14 q = K 14 q := fun q hq => by rw [e2, vd_mxl_14 _ _ _ _ _ hq, s14]
  have k33 : ∀ f, f < 16 → K2 14 (528 + f) = vd_mixv K o b f := fun f hf => by rw [e2, vd_mxl_f _ _ _ _ _ 16 f hf, vd_xmv_of s14, rl_xmv h hB ho hb hf]
  have k19 : K2 19 = K 19 := by rw [e2, vd_mxl_19, hS 19 (by decide) (by decide), k1o 19 (by decide) (by decide)]
  obtain ⟨g47, g15, g16, g17, g20, g14, g18, go⟩ := vd_mkM_spec G eG
  have n47 : K2 47 0 = K 43 0 := by rw [k2o 47 (by decide) (by decide) (by decide) (by decide), k1o 47 (by decide) (by decide)]; exact h.1.1
  have n48 : K2 48 0 = K 40 0 := by rw [k2o 48 (by decide) (by decide) (by decide) (by decide), k1o 48 (by decide) (by decide)]; exact h.1.2.1
  have n18 : K2 18 = K 3 := by rw [k2o 18 (by decide) (by decide) (by decide) (by decide), k1o 18 (by decide) (by decide)]; exact h.2.1.1
  rw [n47] at g47 g15 g16 g17 g14 g18
  rw [n18, n48] at g18
  rw [k2o 15 (by decide) (by decide) (by decide) (by decide), k1o 15 (by decide) (by decide)] at g15
  rw [k2o 16 (by decide) (by decide) (by decide) (by decide), k1o 16 (by decide) (by decide)] at g16
  rw [k2o 17 (by decide) (by decide) (by decide) (by decide), k1o 17 (by decide) (by decide)] at g17
  rw [k2o 20 (by decide) (by decide) (by decide) (by decide), k1o 20 (by decide) (by decide)] at g20
  have go' : ∀ j, j ∉ [14, 15, 16, 17, 18, 20, 47, 19, 21, 22] → G j = K1 j := fun j hn => by
    simp only [List.mem_cons, List.not_mem_nil, or_false, not_or] at hn
    rw [go j hn.1 hn.2.1 hn.2.2.1 hn.2.2.2.1 hn.2.2.2.2.1 hn.2.2.2.2.2.1 hn.2.2.2.2.2.2.1, k2o j hn.1 (by omega) (by omega) (by omega)]
  have gm : ∀ f, f < 16 → G 14 (16 * (K 43 0 + 1) + f) = vd_mixv K o b f := fun f hf => by
    rw [g14]
    show (if 16 * (K 43 0 + 1) ≤ 16 * (K 43 0 + 1) + f ∧ 16 * (K 43 0 + 1) + f < 16 * (K 43 0 + 1) + 16 then K2 14 (16 * 33 + (16 * (K 43 0 + 1) + f - 16 * (K 43 0 + 1))) else _) = _
    rw [if_pos (by omega), Nat.add_sub_cancel_left]
    exact k33 f hf
  have g48 : G 48 0 = K 40 0 := by rw [go 48 (by decide) (by decide) (by decide) (by decide) (by decide) (by decide) (by decide)]; exact n48
  have f3 : G 3 = fun q => if q = K 40 0 then K 43 0 + 1 else K 3 q := by
    rw [go' 3 (by decide), e1, vd_mv_3, kc 40 (Or.inl (by decide)), kc 3 (Or.inl (by decide))]
  have fo : ∀ j, j ≠ 14 → vd_shw G (K 43 0 + 1) j = G j := fun j hj => vd_shw_o hj
  have cl : ∀ j, j ∈ [40, 41, 42] → G j = K j := fun j hj => by
    simp only [List.mem_cons, List.not_mem_nil, or_false] at hj
    rw [go' j (by simp only [List.mem_cons, List.not_mem_nil, or_false, not_or]; omega), e1, vd_mv_o (by omega) (by omega) (by omega), kc j (Or.inl (by simp only [List.mem_cons, List.not_mem_nil, or_false]; omega))]
  refine ⟨?_, ?_⟩
  · unfold vd_hereM
    rw [g48, g18]
    exact if_pos rfl
  refine rl_made (src := 2) (a := vd_here K) (b := p2) hX hXB (Or.inr rfl) hm hh hp Kc hKc.symm ?_ ?_ ?_ ?_ ?_ ?_ ?_ ?_ ?_ ?_ ?_ ?_ ?_ ?_
  · intro j hj
    simp only [List.mem_cons, List.not_mem_nil, or_false] at hj
    rw [fo j (by omega), go' j (by simp only [List.mem_cons, List.not_mem_nil, or_false, not_or]; omega), e1, vd_mv_o (by omega) (by omega) (by omega)]
  · rw [fo 47 (by decide), g47]
    rfl
  · rw [fo 15 (by decide), g15]
    rfl
  · rw [fo 16 (by decide), g16]
    rfl
  · rw [fo 17 (by decide), g17]
    rfl
  · rw [fo 20 (by decide), g20]
    refine bls20_congr (fun i hi => ?_)
    rw [vd_mix_2 hi]
    exact k33 i hi
  · intro c f hc hf
    rw [vd_shw_lo (Or.inl (by omega)) (by omega)]
    by_cases e : c = K 43 0 + 1
    · rw [e, gm f hf]
      rw [show (vd_mix K o b) 43 0 = K 43 0 from rfl, if_pos rfl, vd_mix_2 hf]
    · rw [show (vd_mix K o b) 43 0 = K 43 0 from rfl, if_neg e, g14]
      show (if 16 * (K 43 0 + 1) ≤ 16 * c + f ∧ 16 * c + f < 16 * (K 43 0 + 1) + 16 then _ else K2 14 (16 * c + f)) = _
      rw [if_neg (by omega), k14 _ (by omega)]
      rfl
  · rw [fo 48 (by decide), fo 40 (by decide), g48, cl 40 (by decide)]
  · rw [fo 49 (by decide), fo 41 (by decide), cl 41 (by decide), go' 49 (by decide), k1o 49 (by decide) (by decide)]
    exact h.1.2.2
  · rw [fo 18 (by decide), fo 3 (by decide), f3, g18]
  · intro f hf
    rw [vd_shw_w (Or.inl (by omega)) hf, fo 0 (by decide), gm f hf, go' 0 (by decide), e1, vd_mv_0 hf, hcn f hf]
  · intro f hf
    rw [vd_shw_x (Or.inl (by omega)) hf, fo 1 (by decide), gm f hf, go' 1 (by decide), e1, vd_mv_1 hf, hcn f hf]
  · rw [fo 42 (by decide), fo 19 (by decide), cl 42 (by decide), go 19 (by decide) (by decide) (by decide) (by decide) (by decide) (by decide) (by decide), k19]
    exact h.2.2.2.2.2.1
  · rw [fo 41 (by decide), fo 3 (by decide), cl 41 (by decide), f3]
    refine rl_T_set ⟨fun q => ?_, ?_⟩ (Nat.le_refl _)
    · exact Nat.le_succ_of_le (h.2.2.2.2.2.2.2.2.1.1 q)
    · exact Nat.le_succ_of_le h.2.2.2.2.2.2.2.2.1.2
theorem md_congr {K K1 : KT} (m : ∀ j, 14 ≤ j → (j ≤ 22 ∨ 47 ≤ j) → K1 j = K j) : vd_hereM K1 = vd_hereM K ∧ (∀ x, vd_thM K1 x = vd_thM K x) ∧ (∀ x, vd_stoM K1 x = vd_stoM K x) ∧ vd_tidyM K1 = vd_tidyM K := by
  have e : vd_hereM K1 = vd_hereM K := by unfold vd_hereM; rw [m 18 (by decide) (by decide), m 48 (by decide) (by decide)]
  refine ⟨e, fun x => ?_, fun x => ?_, ?_⟩
  · unfold vd_thM
    rw [m 18 (by decide) (by decide)]
  · unfold vd_stoM
    rw [m 15 (by decide) (by decide)]
  · unfold vd_tidyM vd_same
    rw [e, m 14 (by decide) (by decide)]
theorem vd_maK_m {K : KT} {o j : Nat} (h1 : 14 ≤ j) (h2 : j ≤ 22 ∨ 47 ≤ j) : vd_maK K o j = K j := by
  unfold vd_maK
  split
  · split
    · exact vd_mix_o (by omega)
    · rw [vd_mv_o (by omega) (by omega) (by omega), vd_mkK_o (by omega) (by omega) (by omega) (by omega) (by omega) (by omega) (by omega) (by omega) (by omega) (by omega) (by omega) (by omega) (by omega) (by omega), vd_mix_o (by omega)]
  · rw [vd_st_o (by omega), vd_st_o (by omega), vd_fl_o (by omega), vd_fl_o (by omega), vd_mix_o (by omega)]
theorem vd_meK_m {K : KT} {x : Int32} {j : Nat} (h1 : 14 ≤ j) (h2 : j ≤ 22 ∨ 47 ≤ j) : vd_meK K x j = K j := by
  unfold vd_meK
  split
  · rfl
  · split
    · rfl
    · split
      · rfl
      · split
        · exact vd_mv_o (by omega) (by omega) (by omega)
        · exact vd_maK_m h1 h2
theorem vd_piK_m {K : KT} {x : Int32} {j : Nat} (h1 : 14 ≤ j) (h2 : j ≤ 22 ∨ 47 ≤ j) : vd_piK K x j = K j := by
  unfold vd_piK
  split
  · rfl
  · split
    · rfl
    · split
      · exact vd_mix_o (by omega)
      · split
        · exact vd_mix_o (by omega)
        · split
          · exact vd_mix_o (by omega)
          · rw [vd_mv_o (by omega) (by omega) (by omega), vd_mkK_o (by omega) (by omega) (by omega) (by omega) (by omega) (by omega) (by omega) (by omega) (by omega) (by omega) (by omega) (by omega) (by omega) (by omega), vd_mix_o (by omega)]
theorem hereM_of {S K : KT} (e1 : S 18 = K 18) (e2 : S 48 = K 48) : vd_hereM S = vd_hereM K := by
  unfold vd_hereM
  rw [e1, e2]
theorem op_mergeA {K : KT} (h : vd_Rel K) (hB : vd_Bd K) {c : Nat} (hc1 : 1 ≤ c) (hc : c ≤ K 43 0) (hh1 : 1 ≤ vd_here K) (K1 : KT) (R1 : Int32)
    (e1 : K1 = if (K 7 (vd_here K)).testBit c = true then K else if (K 7 c).testBit (vd_here K) = true then vd_mv K c else vd_maK K c)
    (f1 : R1 = if (K 7 (vd_here K)).testBit c = true then nI 0 else if (K 7 c).testBit (vd_here K) = true then nI c else vd_maR K c) : R1 = vd_meR2 K1 c ∧ vd_Rel (vd_meK2 K1 c) := by
  have hM : K 43 0 ≤ 30 := hB 43 0 (by decide)
  have hh : vd_here K ≤ K 43 0 := rl_hereM h
  have m : ∀ j, 14 ≤ j → (j ≤ 22 ∨ 47 ≤ j) → K1 j = K j := fun j h1 h2 => by
    rw [e1]
    split
    · rfl
    · split
      · exact vd_mv_o (by omega) (by omega) (by omega)
      · exact vd_maK_m h1 h2
  have a2 : vd_hereM K1 = vd_here K := by rw [(md_congr m).1, rl_here h]
  have hA := rl_An h
  have hb : vd_shr K1 (vd_hereM K1) c = vd_base K c := by
    rw [a2]
    exact vd_shr_top (an := K 7) (by rw [m 16 (by decide) (by decide), m 17 (by decide) (by decide)]; exact hA) hM hh hc
  obtain ⟨S, hS⟩ : ∃ S, S = vd_shK K1 (vd_hereM K1) c := ⟨_, rfl⟩
  have sh : ∀ a, a ≠ 21 → a ≠ 22 → S a = K1 a := fun a g1 g2 => by rw [hS]; exact vd_shK_o _ _ _ g1 g2
  have a3 : vd_hereM S = vd_here K := (hereM_of (sh 18 (by decide) (by decide)) (sh 48 (by decide) (by decide))).trans a2
  have t1 : vd_base K c = c ↔ (K 7 (vd_here K)).testBit c = true := vd_meet_r hA hM hh hc1 hc
  have t2 : vd_base K c = vd_here K ↔ (K 7 c).testBit (vd_here K) = true := vd_meet_l hA hM hh1 hh hc
  have hbl : vd_base K c ≤ 30 := vd_topP_le _ _
  by_cases c1 : (K 7 (vd_here K)).testBit c = true
  · rw [if_pos c1] at e1 f1
    obtain ⟨z1, z2⟩ := vd_me_a (K := K1) (c := c) (by rw [hb]; exact t1.mpr c1) hS
    rw [← z1, ← z2, f1]
    refine ⟨rfl, rl_marks h (fun a g1 g2 => ?_)⟩
    rw [sh a g1 g2, e1]
  · rw [if_neg c1] at e1 f1
    have n1 : ¬ vd_shr K1 (vd_hereM K1) c = c := by rw [hb]; exact fun z => c1 (t1.mp z)
    by_cases c2 : (K 7 c).testBit (vd_here K) = true
    · rw [if_pos c2] at e1 f1
      obtain ⟨z1, z2⟩ := vd_me_b (K := K1) (c := c) n1 hS (by rw [hb, a3]; exact t2.mpr c2) rfl
      rw [← z1, ← z2, f1]
      refine ⟨rfl, rl_marks (rl_mv h hB hc K1 e1) (fun a g1 g2 => ?_)⟩
      by_cases ha : a = 14
      · subst ha
        funext q
        rw [vd_shw_14 (Or.inl (by omega)), vd_shw_14 (Or.inl (by omega)), vd_st_o (by decide), vd_st_o (by decide), sh 14 (by decide) (by decide)]
      · rw [vd_shw_o ha, vd_shw_o ha]
        by_cases hb : a = 18
        · subst hb
          rw [vd_st_s, vd_st_s, sh 18 (by decide) (by decide), sh 48 (by decide) (by decide)]
        · rw [vd_st_o hb, vd_st_o hb, sh a g1 g2]
    · rw [if_neg c2] at e1 f1
      have n2 : ¬ vd_shr K1 (vd_hereM K1) c = vd_hereM S := by rw [hb, a3]; exact fun z => c2 (t2.mp z)
      have s14 : S 14 = K 14 := by rw [sh 14 (by decide) (by decide), m 14 (by decide) (by decide)]
      have xn := vd_xn_0 h hB (o := c) (b := vd_base K c) (by omega) hbl s14
      have m47 : vd_mxl S (vd_here K) c (vd_base K c) 0 16 47 0 = K 43 0 := by
        rw [vd_mxl_o _ _ _ _ _ (by decide) (by decide), sh 47 (by decide) (by decide), m 47 (by decide) (by decide)]
        exact h.1.1
      have hm2 : vd_hereM (vd_mxl S (vd_here K) c (vd_base K c) 0 16) = vd_here K := by
        exact (hereM_of (vd_mxl_o _ _ _ _ _ (by decide) (by decide) _) (vd_mxl_o _ _ _ _ _ (by decide) (by decide) _)).trans a3
      by_cases c3 : vd_mask K c (vd_base K c) = 0
      · by_cases c4 : K 43 0 = 30
        · obtain ⟨z1, z2⟩ := vd_me_c (K := K1) (c := c) n1 hS n2 (by rw [a3, hb]; exact xn.mpr c3) rfl (by rw [a3, hb, m47]; exact c4)
          rw [← z1, ← z2, f1]
          have ek : K1 = vd_mix K c (vd_base K c) := by
            rw [e1]
            unfold vd_maK
            rw [if_pos c3, if_pos (by omega)]
          refine ⟨?_, rl_mixed h (fun a g0 g1 g2 => ?_) _ rfl⟩
          · unfold vd_maR
            rw [if_pos c3, if_pos (by omega)]
          · rw [sh a g1 g2]
            conv => lhs; rw [ek]
            exact vd_mix_o g0
        · obtain ⟨z1, z2⟩ := vd_me_d (K := K1) (c := c) n1 hS n2 (by rw [a3, hb]; exact xn.mpr c3) rfl (by rw [a3, hb, m47]; exact c4) rfl rfl
          rw [← z1, ← z2, f1, a3, hb, hm2]
          have ek : K1 = vd_mv (vd_mkK (vd_mix K c (vd_base K c)) 2 (vd_here K) c) (K 43 0 + 1) := by
            rw [e1]
            unfold vd_maK
            rw [if_pos c3, if_neg (by omega)]
          obtain ⟨g1, g2⟩ := rl_mixmade h hB (by omega) (o := c) (b := vd_base K c) (p2 := c) (by omega) hbl hc ek sh rfl rfl
          rw [g1]
          refine ⟨?_, g2⟩
          unfold vd_maR
          rw [if_pos c3, if_neg (by omega)]
          have g3 : ∀ G : KT, vd_hereM (vd_shw G (K 43 0 + 1)) = vd_hereM G := fun G => rfl
          rw [g3, g1]
      · obtain ⟨z1, z2⟩ := vd_me_e (K := K1) (c := c) n1 hS n2 (by rw [a3, hb]; exact fun z => c3 (xn.mp z)) rfl rfl rfl rfl
        rw [← z1, ← z2, f1, a3, hb, hm2]
        refine ⟨?_, ?_⟩
        · unfold vd_maR
          rw [if_neg c3]
        have ek : K1 = vd_st (vd_st (vd_fl (vd_fl (vd_mix K c (vd_base K c)) 1 0 16 (fun b => vd_mix K c (vd_base K c) 2 (0 + b))) 0 0 16 (fun b => vd_mix K c (vd_base K c) 2 (0 + b))) 41 0 c) 42 0 (vd_mask K c (vd_base K c)) := by
          rw [e1]
          unfold vd_maK
          rw [if_neg c3]
        have k14 : ∀ q, q < 528 → vd_mxl S (vd_here K) c (vd_base K c) 0 16 14 q = K 14 q := fun q hq => by rw [vd_mxl_14 _ _ _ _ _ hq, s14]
        have ko : ∀ j, j ≠ 14 → j ≠ 19 → j ≠ 21 → j ≠ 22 → vd_mxl S (vd_here K) c (vd_base K c) 0 16 j = K1 j := fun j g1 g2 g3 g4 => by rw [vd_mxl_o _ _ _ _ _ g1 g2, sh j g3 g4]
        generalize vd_mxl S (vd_here K) c (vd_base K c) 0 16 = K2 at *
        have l14 : ∀ q, q < 528 → vd_mxl K2 (vd_here K) c (vd_base K c) 1 16 14 q = K 14 q := fun q hq => by rw [vd_mxl_14 _ _ _ _ _ hq, k14 q hq]
        have l33 : ∀ f, f < 16 → vd_mxl K2 (vd_here K) c (vd_base K c) 1 16 14 (528 + f) = vd_mixv K c (vd_base K c) f := fun f hf => by
          rw [vd_mxl_f _ _ _ _ _ 16 f hf, vd_xmv_lo k14 (by omega) (by omega) hbl hf, rl_xmv h hB (by omega) hbl hf]
        have l19 : ∀ f, f < 16 → vd_mxl K2 (vd_here K) c (vd_base K c) 1 16 19 f = (vd_clash K c (vd_base K c) f).toNat := fun f hf => by
          rw [vd_mxl_c _ _ _ _ 16 f hf, vd_xcl_lo k14 (by omega) (by omega) hbl hf, rl_xcl h hB (by omega) hbl hf]
        have lo : ∀ j, j ≠ 14 → j ≠ 19 → j ≠ 21 → j ≠ 22 → vd_mxl K2 (vd_here K) c (vd_base K c) 1 16 j = K1 j := fun j g1 g2 g3 g4 => by rw [vd_mxl_o _ _ _ _ _ g1 g2, ko j g1 g2 g3 g4]
        generalize vd_mxl K2 (vd_here K) c (vd_base K c) 1 16 = K3 at *
        have fo : ∀ j, j ≠ 14 → j ≠ 49 → vd_st (vd_shw K3 33) 49 0 c j = K3 j := fun j g1 g2 => by rw [vd_st_o g2, vd_shw_o g1]
        have f14 : vd_st (vd_shw K3 33) 49 0 c 14 = vd_shw K3 33 14 := vd_st_o (by decide)
        have k41 : ∀ j, j ≠ 42 → j ≠ 41 → j ≠ 0 → j ≠ 1 → j ≠ 2 → K1 j = K j := fun j g1 g2 g3 g4 g5 => by
          rw [ek, vd_st_o g1, vd_st_o g2, vd_fl_o g3, vd_fl_o g4, vd_mix_o g5]
        have w0 : ∀ f, f < 16 → K1 0 f = vd_mixv K c (vd_base K c) f := fun f hf => by
          rw [ek, vd_st_o (by decide), vd_st_o (by decide), vd_fl_i]
          show (if 0 ≤ f ∧ f < 0 + 16 then vd_mix K c (vd_base K c) 2 (0 + (f - 0)) else _) = _
          rw [if_pos (by omega), Nat.zero_add, Nat.sub_zero, vd_mix_2 hf]
        have w1 : ∀ f, f < 16 → K1 1 f = vd_mixv K c (vd_base K c) f := fun f hf => by
          rw [ek, vd_st_o (by decide), vd_st_o (by decide), vd_fl_o (by decide), vd_fl_i]
          show (if 0 ≤ f ∧ f < 0 + 16 then vd_mix K c (vd_base K c) 2 (0 + (f - 0)) else _) = _
          rw [if_pos (by omega), Nat.zero_add, Nat.sub_zero, vd_mix_2 hf]
        have v41 : K1 41 0 = c := by rw [ek]; rfl
        have v42 : K1 42 0 = vd_mask K c (vd_base K c) := by rw [ek]; rfl
        refine rl_set h (fun a ha => ?_) (fun q hq => ?_) (fun f hf => ?_) (fun f hf => ?_) ?_ ?_ ?_ ?_ ?_
        · simp only [List.mem_cons, List.not_mem_nil, or_false] at ha
          rw [fo a (by omega) (by omega), lo a (by omega) (by omega) (by omega) (by omega), k41 a (by omega) (by omega) (by omega) (by omega) (by omega)]
        · rw [f14, vd_shw_lo (Or.inr rfl) hq, l14 q (by omega)]
        · rw [f14, vd_shw_w (Or.inr rfl) hf, fo 0 (by decide) (by decide), lo 0 (by decide) (by decide) (by decide) (by decide), w0 f hf]
          exact l33 f hf
        · rw [f14, vd_shw_x (Or.inr rfl) hf, fo 1 (by decide) (by decide), lo 1 (by decide) (by decide) (by decide) (by decide), w1 f hf]
          exact l33 f hf
        · rw [fo 48 (by decide) (by decide), fo 40 (by decide) (by decide), lo 48 (by decide) (by decide) (by decide) (by decide), lo 40 (by decide) (by decide) (by decide) (by decide), k41 48 (by decide) (by decide) (by decide) (by decide) (by decide), k41 40 (by decide) (by decide) (by decide) (by decide) (by decide)]
          exact h.1.2.1
        · rw [fo 41 (by decide) (by decide), lo 41 (by decide) (by decide) (by decide) (by decide), v41]
          rfl
        · rw [fo 18 (by decide) (by decide), fo 3 (by decide) (by decide), lo 18 (by decide) (by decide) (by decide) (by decide), lo 3 (by decide) (by decide) (by decide) (by decide), k41 18 (by decide) (by decide) (by decide) (by decide) (by decide), k41 3 (by decide) (by decide) (by decide) (by decide) (by decide)]
          exact h.2.1.1
        · intro f hf
          rw [fo 42 (by decide) (by decide), fo 19 (by decide) (by decide), lo 42 (by decide) (by decide) (by decide) (by decide), v42, l19 f hf]
          unfold vd_mask
          rw [vd_mk_bit, decide_eq_true hf, Bool.true_and]
          cases vd_clash K c (vd_base K c) f <;> decide
        · rw [fo 41 (by decide) (by decide), fo 3 (by decide) (by decide), lo 41 (by decide) (by decide) (by decide) (by decide), lo 3 (by decide) (by decide) (by decide) (by decide), v41, k41 3 (by decide) (by decide) (by decide) (by decide) (by decide)]
          exact ⟨h.2.2.2.2.2.2.2.2.1.1, hc⟩
theorem op_merge {K : KT} (h : vd_Rel K) (hB : vd_Bd K) (x : Int32) : vd_meR K x = vd_meRM (vd_meK K x) x ∧ vd_Rel (vd_meKM (vd_meK K x) x) := by
  have m : ∀ j, 14 ≤ j → (j ≤ 22 ∨ 47 ≤ j) → vd_meK K x j = K j := fun j h1 h2 => vd_meK_m h1 h2
  have b49 : vd_meK K x 49 0 = K 41 0 := by rw [m 49 (by decide) (by decide)]; exact h.1.2.2
  have b18 : vd_meK K x 18 = K 3 := by rw [m 18 (by decide) (by decide)]; exact h.2.1.1
  obtain ⟨c1, c2, -, c4⟩ := md_congr m
  unfold vd_meR vd_meRM vd_meKM
  rw [c1, c2 x, c4, b49, b18, rl_here h, rl_there h, rl_tidy h hB]
  by_cases h1 : vd_there K x = false ∨ vd_here K = 0 ∨ K 41 0 ≠ 0
  · rw [if_pos h1, if_pos h1, if_pos h1]
    refine ⟨rfl, ?_⟩
    unfold vd_meK
    rw [if_pos h1]
    exact h
  · rw [if_neg h1, if_neg h1, if_neg h1]
    by_cases h2 : vd_tidy K = false
    · rw [if_pos h2, if_pos h2, if_pos h2]
      refine ⟨rfl, ?_⟩
      unfold vd_meK
      rw [if_neg h1, if_pos h2]
      exact h
    · rw [if_neg h2, if_neg h2, if_neg h2]
      have hb : vd_there K x = true := by
        cases hz : vd_there K x with
        | true => rfl
        | false => exact absurd (Or.inl hz) h1
      have hh : vd_here K ≠ 0 := fun z => h1 (Or.inr (Or.inl z))
      obtain ⟨b, g1, g2, rfl, g3⟩ := vd_there_t hb
      rw [nI_clamp (show b < 2 ^ 31 by omega)]
      refine op_mergeA h hB (by omega) (h.2.2.2.2.2.2.2.2.1.1 b) (by omega) _ _ ?_ rfl
      unfold vd_meK
      rw [if_neg h1, if_neg h2, nI_clamp (show b < 2 ^ 31 by omega)]
theorem op_pickA {K : KT} (h : vd_Rel K) (hB : vd_Bd K) {c : Nat} (hc1 : 1 ≤ c) (hc : c ≤ K 43 0) (K1 : KT) (R1 : Int32)
    (e1 : K1 = if vd_mask K c (K 5 c) ≠ 0 then vd_mix K c (K 5 c) else if vd_ash (vd_mix K c (K 5 c)) 2 = true then vd_mix K c (K 5 c) else if 30 ≤ K 43 0 then vd_mix K c (K 5 c) else vd_mv (vd_mkK (vd_mix K c (K 5 c)) 2 (vd_here K) 0) (K 43 0 + 1))
    (f1 : R1 = if vd_mask K c (K 5 c) ≠ 0 then (-5 : Int32) else if vd_ash (vd_mix K c (K 5 c)) 2 = true then (-3 : Int32) else if 30 ≤ K 43 0 then (-2 : Int32) else nI (K 43 0 + 1)) : R1 = vd_piR2 K1 c ∧ vd_Rel (vd_piK2 K1 c) := by
  have hM : K 43 0 ≤ 30 := hB 43 0 (by decide)
  have hh : vd_here K ≤ K 43 0 := rl_hereM h
  have h5 : K 5 c ≤ 30 := hB 5 c (by show c < 31; omega)
  have m : ∀ j, 14 ≤ j → (j ≤ 22 ∨ 47 ≤ j) → K1 j = K j := fun j h1 h2 => by
    rw [e1]
    split
    · exact vd_mix_o (by omega)
    · split
      · exact vd_mix_o (by omega)
      · split
        · exact vd_mix_o (by omega)
        · rw [vd_mv_o (by omega) (by omega) (by omega), vd_mkK_o (by omega) (by omega) (by omega) (by omega) (by omega) (by omega) (by omega) (by omega) (by omega) (by omega) (by omega) (by omega) (by omega) (by omega), vd_mix_o (by omega)]
  have a2 : vd_hereM K1 = vd_here K := by rw [(md_congr m).1, rl_here h]
  have e16 : K1 16 c = K 5 c := by rw [m 16 (by decide) (by decide), h.2.1.2.1]
  have s14 : K1 14 = K 14 := m 14 (by decide) (by decide)
  have xn := vd_xn_0 h hB (o := c) (b := K 5 c) (by omega) h5 s14
  have m47 : vd_mxl K1 (vd_here K) c (K 5 c) 0 16 47 0 = K 43 0 := by
    rw [vd_mxl_o _ _ _ _ _ (by decide) (by decide), m 47 (by decide) (by decide)]
    exact h.1.1
  have hm2 : vd_hereM (vd_mxl K1 (vd_here K) c (K 5 c) 0 16) = vd_here K := by
    refine Eq.trans ?_ a2
    unfold vd_hereM
    rw [vd_mxl_o _ _ _ _ _ (a := 18) (by decide) (by decide), vd_mxl_o _ _ _ _ _ (a := 48) (by decide) (by decide)]
  have hsm : vd_same (vd_mxl K1 (vd_here K) c (K 5 c) 0 16) 33 (vd_here K) = vd_ash (vd_mix K c (K 5 c)) 2 := by
    unfold vd_same vd_ash
    have p : ∀ f, f < 16 → vd_mxl K1 (vd_here K) c (K 5 c) 0 16 14 (16 * 33 + f) = vd_mix K c (K 5 c) 2 f := fun f hf => by
      rw [show 16 * 33 + f = 528 + f by omega, vd_mxl_f _ _ _ _ _ 16 f hf, vd_xmv_of s14, rl_xmv h hB (by omega) h5 hf, vd_mix_2 hf]
    have q : ∀ f, f < 16 → vd_mxl K1 (vd_here K) c (K 5 c) 0 16 14 (16 * vd_here K + f) = vd_cnt (vd_mix K c (K 5 c)) (vd_here (vd_mix K c (K 5 c))) f := fun f hf => by
      rw [vd_mxl_14 _ _ _ _ _ (by omega), s14]
      exact rl_cnt h.2.2.1 (by omega) hf
    refine vd_eqn_c ⟨fun z f hf => ?_, fun z f hf => ?_⟩
    · rw [← p f hf, ← q f hf]
      exact z f hf
    · rw [p f hf, q f hf]
      exact z f hf
  have mixd : K1 = vd_mix K c (K 5 c) → vd_Rel (vd_mxl K1 (vd_here K) c (K 5 c) 0 16) := fun ek => rl_mixed h (fun a g0 g1 g2 => by rw [ek]; exact vd_mix_o g0) _ rfl
  by_cases c1 : vd_mask K c (K 5 c) = 0
  · have nc : ¬ vd_mask K c (K 5 c) ≠ 0 := fun z => z c1
    rw [if_neg nc] at e1 f1
    have n1 : vd_xn K1 (vd_hereM K1) c (K1 16 c) = 0 := by rw [a2, e16]; exact xn.mpr c1
    by_cases c2 : vd_ash (vd_mix K c (K 5 c)) 2 = true
    · rw [if_pos c2] at e1 f1
      obtain ⟨z1, z2⟩ := vd_pi_b (K := K1) (c := c) rfl n1 (by rw [a2, e16, hm2, hsm]; exact c2)
      rw [← z1, ← z2, f1, a2, e16]
      exact ⟨rfl, mixd e1⟩
    · rw [if_neg c2] at e1 f1
      have n2 : vd_same (vd_mxl K1 (vd_hereM K1) c (K1 16 c) 0 16) 33 (vd_hereM (vd_mxl K1 (vd_hereM K1) c (K1 16 c) 0 16)) = false := by
        rw [a2, e16, hm2, hsm]
        simpa using c2
      by_cases c3 : K 43 0 = 30
      · rw [if_pos (by omega)] at e1 f1
        obtain ⟨z1, z2⟩ := vd_pi_c (K := K1) (c := c) rfl n1 n2 (by rw [a2, e16, m47]; exact c3)
        rw [← z1, ← z2, f1, a2, e16]
        exact ⟨rfl, mixd e1⟩
      · rw [if_neg (by omega)] at e1 f1
        obtain ⟨z1, z2⟩ := vd_pi_d (K := K1) (c := c) rfl n1 n2 (by rw [a2, e16, m47]; exact c3) rfl rfl
        rw [← z1, ← z2, f1, a2, e16, hm2]
        obtain ⟨g1, g2⟩ := rl_mixmade h hB (by omega) (o := c) (b := K 5 c) (p2 := 0) (by omega) h5 (Nat.zero_le _) e1 (fun _ _ _ => rfl) rfl rfl
        rw [g1]
        refine ⟨?_, g2⟩
        have g3 : ∀ G : KT, vd_hereM (vd_shw G (K 43 0 + 1)) = vd_hereM G := fun G => rfl
        rw [g3, g1]
  · rw [if_pos c1] at e1 f1
    obtain ⟨z1, z2⟩ := vd_pi_a (K := K1) (c := c) rfl (by rw [a2, e16]; exact fun z => c1 (xn.mp z))
    rw [← z1, ← z2, f1, a2, e16]
    exact ⟨rfl, mixd e1⟩
theorem op_pick {K : KT} (h : vd_Rel K) (hB : vd_Bd K) (x : Int32) : vd_piR K x = vd_piRM (vd_piK K x) x ∧ vd_Rel (vd_piKM (vd_piK K x) x) := by
  have m : ∀ j, 14 ≤ j → (j ≤ 22 ∨ 47 ≤ j) → vd_piK K x j = K j := fun j h1 h2 => vd_piK_m h1 h2
  have b49 : vd_piK K x 49 0 = K 41 0 := by rw [m 49 (by decide) (by decide)]; exact h.1.2.2
  obtain ⟨c1, -, c3, c4⟩ := md_congr m
  unfold vd_piR vd_piRM vd_piKM
  rw [c1, c3 x, c4, b49, rl_here h, rl_sto h, rl_tidy h hB]
  by_cases h1 : vd_hol K x = false ∨ vd_here K = 0 ∨ K 41 0 ≠ 0
  · rw [if_pos h1, if_pos h1, if_pos h1]
    refine ⟨rfl, ?_⟩
    unfold vd_piK
    rw [if_pos h1]
    exact h
  · rw [if_neg h1, if_neg h1, if_neg h1]
    by_cases h2 : vd_tidy K = false
    · rw [if_pos h2, if_pos h2, if_pos h2]
      refine ⟨rfl, ?_⟩
      unfold vd_piK
      rw [if_neg h1, if_pos h2]
      exact h
    · rw [if_neg h2, if_neg h2, if_neg h2]
      have hb : vd_hol K x = true := by
        cases hz : vd_hol K x with
        | true => rfl
        | false => exact absurd (Or.inl hz) h1
      obtain ⟨c, g1, g2, rfl, g3⟩ := vd_hol_t hb
      rw [nI_clamp (show c < 2 ^ 31 by omega)]
      refine op_pickA h hB g1 (rl_hol_le h g1 g2 g3) _ _ ?_ rfl
      unfold vd_piK
      rw [if_neg h1, if_neg h2, nI_clamp (show c < 2 ^ 31 by omega)]
end
section
/-! PURE: sweep -/
theorem vd_need_bit (K : KT) (k : Nat) : ∀ n, (vd_need K n).testBit k = true ↔ ((K 7 (K 41 0)).testBit k = true ∨ ∃ b, b < n ∧ (K 7 (K 3 b)).testBit k = true)
  | 0 => ⟨fun h => Or.inl h, fun h => by
    rcases h with h | ⟨b, hb, -⟩
    · exact h
    · exact absurd hb (Nat.not_lt_zero b)⟩
  | n + 1 => by
    show (vd_need K n ||| K 7 (K 3 n)).testBit k = true ↔ _
    rw [Nat.testBit_or, Bool.or_eq_true, vd_need_bit K k n]
    constructor
    · rintro ((h | ⟨b, hb, h⟩) | h)
      · exact Or.inl h
      · exact Or.inr ⟨b, by omega, h⟩
      · exact Or.inr ⟨n, by omega, h⟩
    · rintro (h | ⟨b, hb, h⟩)
      · exact Or.inl (Or.inl h)
      · by_cases e : b = n
        · subst e
          exact Or.inr h
        · exact Or.inl (Or.inr ⟨b, by omega, h⟩)
theorem vd_or2_22 (X : KT) (k : Nat) : ∀ n, vd_or2 X n 22 k ≠ 0 ↔ (X 22 k ≠ 0 ∨ (1 ≤ k ∧ k ≤ n ∧ X 21 k ≠ 0))
  | 0 => ⟨fun h => Or.inl h, fun h => by
    rcases h with h | ⟨h1, h2, -⟩
    · exact h
    · omega⟩
  | n + 1 => by
    have ih := vd_or2_22 X k n
    rw [vd_or2_s]
    by_cases h : X 21 (n + 1) ≠ 0
    · rw [if_pos h, vd_st_s]
      show (if k = n + 1 then 1 else vd_or2 X n 22 k) ≠ 0 ↔ _
      by_cases e : k = n + 1
      · rw [if_pos e]
        exact ⟨fun _ => Or.inr ⟨by omega, by omega, by rw [e]; exact h⟩, fun _ => by decide⟩
      · rw [if_neg e, ih]
        refine or_congr Iff.rfl ⟨fun z => ⟨z.1, by omega, z.2.2⟩, fun z => ⟨z.1, by omega, z.2.2⟩⟩
    · rw [if_neg h, ih]
      refine or_congr Iff.rfl ⟨fun z => ⟨z.1, by omega, z.2.2⟩, fun z => ⟨z.1, ?_, z.2.2⟩⟩
      by_cases e : k = n + 1
      · rw [e] at z
        exact absurd z.2.2 h
      · omega
theorem vd_sw1_22 {M : Nat} {an : Nat → Nat} {X : KT} (hA : vd_An M an (X 16) (X 17)) (hM : M ≤ 30) {k : Nat} (hk : k ≤ 30) : ∀ n, (∀ b, b < n → vd_swb X b ≤ M) → (vd_sw1 X n 22 k ≠ 0 ↔ (X 22 k ≠ 0 ∨ ∃ b, b < n ∧ (an (vd_swb X b)).testBit k = true))
  | 0, _ => ⟨fun h => Or.inl h, fun h => by
    rcases h with h | ⟨b, hb, -⟩
    · exact h
    · exact absurd hb (Nat.not_lt_zero b)⟩
  | n + 1, hs => by
    have ih := vd_sw1_22 hA hM hk n (fun b hb => hs b (by omega))
    rw [vd_sw1_s, vd_or2_22, vd_mar_o _ _ (by decide)]
    have hm := vd_mar_bit (K := vd_sw1 X n) (c := vd_swb X n) (by rw [vd_sw1_o X (by decide) (by decide), vd_sw1_o X (by decide) (by decide)]; exact hA) hM (hs n (by omega)) hk
    rw [hm, ih]
    constructor
    · rintro ((h | ⟨b, hb, h⟩) | h)
      · exact Or.inl h
      · exact Or.inr ⟨b, by omega, h⟩
      · exact Or.inr ⟨n, by omega, h.2.2⟩
    · rintro (h | ⟨b, hb, h⟩)
      · exact Or.inl (Or.inl h)
      · by_cases e : b = n
        · subst e
          have := hA.le _ (hs b (by omega)) k h
          exact Or.inr ⟨this.1, hk, h⟩
        · exact Or.inl (Or.inr ⟨b, by omega, h⟩)
theorem vd_bl3_20 (X : KT) (k v : Nat) : ∀ n, vd_bl3 X k n 20 v ≠ 0 ↔ (X 20 v ≠ 0 ∨ (X 15 k ≠ 0 ∧ ∃ f, f < n ∧ X 14 (16 * k + f) = v))
  | 0 => ⟨fun h => Or.inl h, fun h => by
    rcases h with h | ⟨-, b, hb, -⟩
    · exact h
    · exact absurd hb (Nat.not_lt_zero b)⟩
  | n + 1 => by
    have ih := vd_bl3_20 X k v n
    rw [vd_bl3_s]
    by_cases h : X 15 k ≠ 0
    · rw [if_pos h, vd_st_s]
      show (if v = X 14 (16 * k + n) then 1 else vd_bl3 X k n 20 v) ≠ 0 ↔ _
      by_cases e : v = X 14 (16 * k + n)
      · rw [if_pos e]
        exact ⟨fun _ => Or.inr ⟨h, n, by omega, e.symm⟩, fun _ => by decide⟩
      · rw [if_neg e, ih]
        refine or_congr Iff.rfl (and_congr Iff.rfl ⟨fun ⟨f, g1, g2⟩ => ⟨f, by omega, g2⟩, fun ⟨f, g1, g2⟩ => ⟨f, ?_, g2⟩⟩)
        by_cases e2 : f = n
        · rw [e2] at g2
          exact absurd g2.symm e
        · omega
    · rw [if_neg h, ih]
      refine or_congr Iff.rfl ⟨fun z => absurd z.1 h, fun z => absurd z.1 h⟩
theorem vd_sw3_15 (X : KT) (k : Nat) : ∀ n, vd_sw3 X n 15 k = if 1 ≤ k ∧ k ≤ n then X 22 k else X 15 k
  | 0 => by
    rw [if_neg (by omega)]
    rfl
  | n + 1 => by
    rw [vd_sw3_s, vd_bl3_o _ _ (by decide), vd_st_s]
    show (if k = n + 1 then X 22 (n + 1) else vd_sw3 X n 15 k) = _
    rw [vd_sw3_15 X k n]
    by_cases e : k = n + 1
    · rw [if_pos e, if_pos (by omega), e]
    · rw [if_neg e]
      by_cases e2 : 1 ≤ k ∧ k ≤ n
      · rw [if_pos e2, if_pos (by omega)]
      · rw [if_neg e2, if_neg (by omega)]
theorem vd_sw3_20 (X : KT) (v : Nat) : ∀ n, vd_sw3 X n 20 v ≠ 0 ↔ (X 20 v ≠ 0 ∨ ∃ k, 1 ≤ k ∧ k ≤ n ∧ X 22 k ≠ 0 ∧ ∃ f, f < 16 ∧ X 14 (16 * k + f) = v)
  | 0 => ⟨fun h => Or.inl h, fun h => by
    rcases h with h | ⟨k, h1, h2, -⟩
    · exact h
    · omega⟩
  | n + 1 => by
    have ih := vd_sw3_20 X v n
    rw [vd_sw3_s, vd_bl3_20, vd_st_o (by decide), ih, vd_st_s, vd_st_o (by decide), vd_sw3_o X (a := 14) (by decide) (by decide)]
    have e1 : (fun b => if b = n + 1 then X 22 (n + 1) else vd_sw3 X n 15 b) (n + 1) = X 22 (n + 1) := if_pos rfl
    rw [e1]
    constructor
    · rintro ((h | ⟨k, g1, g2, g3, g4⟩) | ⟨g3, g4⟩)
      · exact Or.inl h
      · exact Or.inr ⟨k, g1, by omega, g3, g4⟩
      · exact Or.inr ⟨n + 1, by omega, by omega, g3, g4⟩
    · rintro (h | ⟨k, g1, g2, g3, g4⟩)
      · exact Or.inl (Or.inl h)
      · by_cases e : k = n + 1
        · rw [e] at g3 g4
          exact Or.inr ⟨g3, g4⟩
        · exact Or.inl (Or.inr ⟨k, g1, by omega, g3, g4⟩)
theorem vd_sw4_20 (X : KT) (v : Nat) : ∀ n, vd_sw4 X n 20 v ≠ 0 ↔ (X 20 v ≠ 0 ∨ ∃ f, f < n ∧ X 14 (512 + f) = v)
  | 0 => ⟨fun h => Or.inl h, fun h => by
    rcases h with h | ⟨b, hb, -⟩
    · exact h
    · exact absurd hb (Nat.not_lt_zero b)⟩
  | n + 1 => by
    have ih := vd_sw4_20 X v n
    rw [vd_sw4_s, vd_st_s]
    show (if v = X 14 (512 + n) then 1 else vd_sw4 X n 20 v) ≠ 0 ↔ _
    by_cases e : v = X 14 (512 + n)
    · rw [if_pos e]
      exact ⟨fun _ => Or.inr ⟨n, by omega, e.symm⟩, fun _ => by decide⟩
    · rw [if_neg e, ih]
      refine or_congr Iff.rfl ⟨fun ⟨f, g1, g2⟩ => ⟨f, by omega, g2⟩, fun ⟨f, g1, g2⟩ => ⟨f, ?_, g2⟩⟩
      by_cases e2 : f = n
      · rw [e2] at g2
        exact absurd g2.symm e
      · omega
def bt (a : Nat → Nat) (x : Nat) : Prop := (a (x / 64)).testBit (x % 64) = true
theorem bt_1 {a : Nat → Nat} {v x : Nat} : bt (bk9 a v) x ↔ (bt a x ∨ (x ≠ 0 ∧ v = x)) := by
  unfold bt bk9
  by_cases h0 : v = 0
  · rw [if_pos h0]
    exact ⟨fun h => Or.inl h, fun h => by
      rcases h with h | ⟨h1, h2⟩
      · exact h
      · omega⟩
  · rw [if_neg h0]
    show ((if x / 64 = v / 64 then (a (v / 64) ||| 2 ^ (v % 64)) else a (x / 64)).testBit (x % 64) = true) ↔ _
    by_cases e : v = x
    · subst e
      rw [if_pos rfl, Nat.testBit_or, Nat.testBit_two_pow_self, Bool.or_true]
      exact ⟨fun _ => Or.inr ⟨h0, rfl⟩, fun _ => rfl⟩
    · by_cases e2 : x / 64 = v / 64
      · rw [if_pos e2, Nat.testBit_or, Nat.testBit_two_pow, decide_eq_false (by omega), Bool.or_false, ← e2]
        exact ⟨fun h => Or.inl h, fun h => h.resolve_right (fun z => e z.2)⟩
      · rw [if_neg e2]
        exact ⟨fun h => Or.inl h, fun h => h.resolve_right (fun z => e z.2)⟩
theorem bt_n {a v : Nat → Nat} {x : Nat} : ∀ n, bt (bks9 a v n) x ↔ (bt a x ∨ (x ≠ 0 ∧ ∃ i, i < n ∧ v i = x))
  | 0 => ⟨fun h => Or.inl h, fun h => by
    rcases h with h | ⟨-, b, hb, -⟩
    · exact h
    · exact absurd hb (Nat.not_lt_zero b)⟩
  | n + 1 => by
    show bt (bk9 (bks9 a v n) (v n)) x ↔ _
    rw [bt_1, bt_n n]
    constructor
    · rintro ((h | ⟨h, i, g1, g2⟩) | ⟨h, g⟩)
      · exact Or.inl h
      · exact Or.inr ⟨h, i, by omega, g2⟩
      · exact Or.inr ⟨h, n, by omega, g⟩
    · rintro (h | ⟨h, i, g1, g2⟩)
      · exact Or.inl (Or.inl h)
      · by_cases e : i = n
        · subst e
          exact Or.inr ⟨h, g2⟩
        · exact Or.inl (Or.inr ⟨h, i, by omega, g2⟩)
theorem vd_ka1_9 (Y : KT) (r : Nat) : ∀ n, vd_ka1 Y r n 9 = bks9 (Y 9) (fun q => Y 10 (r * 4 + q)) n
  | 0 => rfl
  | n + 1 => by
    show vd_bk (vd_ka1 Y r n) (Y 10 (r * 4 + n)) 9 = bk9 (bks9 (Y 9) (fun q => Y 10 (r * 4 + q)) n) (Y 10 (r * 4 + n))
    rw [vd_bk_9, vd_ka1_9 Y r n]
theorem vd_ka_13 (Y : KT) (r : Nat) : ∀ n, vd_ka Y r n 13 = fun i => if i = r then 1 else Y 13 i
  | 0 => vd_st_s
  | n + 1 => by rw [vd_ka_s, vd_ka1_o _ _ (by decide), vd_st_o (by decide), vd_ka_13 Y r n]
theorem vd_ka_11 (Y : KT) (r t : Nat) : ∀ n, vd_ka Y r n 11 t ≠ 0 ↔ (Y 11 t ≠ 0 ∨ ∃ p, p < n ∧ Y 12 (r * 4 + p) = t)
  | 0 => ⟨fun h => Or.inl h, fun h => by
    rcases h with h | ⟨b, hb, -⟩
    · exact h
    · exact absurd hb (Nat.not_lt_zero b)⟩
  | n + 1 => by
    have ih := vd_ka_11 Y r t n
    rw [vd_ka_s, vd_ka1_o _ _ (by decide), vd_st_s]
    show (if t = Y 12 (r * 4 + n) then 1 else vd_ka Y r n 11 t) ≠ 0 ↔ _
    by_cases e : t = Y 12 (r * 4 + n)
    · rw [if_pos e]
      exact ⟨fun _ => Or.inr ⟨n, by omega, e.symm⟩, fun _ => by decide⟩
    · rw [if_neg e, ih]
      refine or_congr Iff.rfl ⟨fun ⟨f, g1, g2⟩ => ⟨f, by omega, g2⟩, fun ⟨f, g1, g2⟩ => ⟨f, ?_, g2⟩⟩
      by_cases e2 : f = n
      · rw [e2] at g2
        exact absurd g2.symm e
      · omega
theorem vd_ka_9 (Y : KT) (r x : Nat) : ∀ n, bt (vd_ka Y r n 9) x ↔ (bt (Y 9) x ∨ (x ≠ 0 ∧ ∃ p, p < n ∧ ∃ q, q < 4 ∧ Y 10 (Y 12 (r * 4 + p) * 4 + q) = x))
  | 0 => ⟨fun h => Or.inl h, fun h => by
    rcases h with h | ⟨-, b, hb, -⟩
    · exact h
    · exact absurd hb (Nat.not_lt_zero b)⟩
  | n + 1 => by
    have ih := vd_ka_9 Y r x n
    rw [vd_ka_s, vd_ka1_9, vd_st_o (by decide), vd_st_o (by decide), vd_ka_o Y r (a := 10) (by decide) (by decide) (by decide), bt_n, ih]
    constructor
    · rintro ((h | ⟨h, p, g1, g2⟩) | ⟨h, g⟩)
      · exact Or.inl h
      · exact Or.inr ⟨h, p, by omega, g2⟩
      · exact Or.inr ⟨h, n, by omega, g⟩
    · rintro (h | ⟨h, p, g1, g2⟩)
      · exact Or.inl (Or.inl h)
      · by_cases e : p = n
        · subst e
          exact Or.inr ⟨h, g2⟩
        · exact Or.inl (Or.inr ⟨h, p, by omega, g2⟩)
theorem vd_ko_o2 (X : KT) {a : Nat} (h9 : a ≠ 9) (h11 : a ≠ 11) (h13 : a ≠ 13) : ∀ n, vd_ko X n a = X a
  | 0 => rfl
  | n + 1 => by
    rw [vd_ko_s]
    split
    · rw [vd_ka_o _ _ h9 h11 h13, vd_ko_o2 X h9 h11 h13 n]
    · exact vd_ko_o2 X h9 h11 h13 n
theorem vd_ko_all (X : KT) : ∀ n, (∀ r, vd_ko X n 13 r ≠ 0 ↔ (X 13 r ≠ 0 ∨ ∃ c, 1 ≤ c ∧ c ≤ n ∧ (X 44 0).testBit c = true ∧ X 4 c = r)) ∧
    (∀ r, vd_ko X n 11 r ≠ 0 ↔ (X 11 r ≠ 0 ∨ ∃ c, 1 ≤ c ∧ c ≤ n ∧ (X 44 0).testBit c = true ∧ ∃ p, p < 4 ∧ X 12 (X 4 c * 4 + p) = r)) ∧
    (∀ x, bt (vd_ko X n 9) x ↔ (bt (X 9) x ∨ ∃ c, 1 ≤ c ∧ c ≤ n ∧ (X 44 0).testBit c = true ∧ x ≠ 0 ∧ ∃ p, p < 4 ∧ ∃ q, q < 4 ∧ X 10 (X 12 (X 4 c * 4 + p) * 4 + q) = x))
  | 0 => by
    refine ⟨fun r => ⟨fun h => Or.inl h, fun h => ?_⟩, fun r => ⟨fun h => Or.inl h, fun h => ?_⟩, fun r => ⟨fun h => Or.inl h, fun h => ?_⟩⟩ <;>
    · rcases h with h | ⟨c, h1, h2, -⟩
      · exact h
      · omega
  | n + 1 => by
    obtain ⟨i1, i2, i3⟩ := vd_ko_all X n
    rw [vd_ko_s]
    have hstep : ∀ (P : Nat → Prop), (¬ (X 44 0).testBit (n + 1) = true) → ((∃ c, 1 ≤ c ∧ c ≤ n + 1 ∧ (X 44 0).testBit c = true ∧ P c) ↔ ∃ c, 1 ≤ c ∧ c ≤ n ∧ (X 44 0).testBit c = true ∧ P c) := fun P hb =>
      ⟨fun ⟨c, g1, g2, g3, g4⟩ => ⟨c, g1, by
        by_cases e : c = n + 1
        · rw [e] at g3
          exact absurd g3 hb
        · omega, g3, g4⟩, fun ⟨c, g1, g2, g3, g4⟩ => ⟨c, g1, by omega, g3, g4⟩⟩
    have hstep2 : ∀ (P : Nat → Prop), ((X 44 0).testBit (n + 1) = true) → ((∃ c, 1 ≤ c ∧ c ≤ n + 1 ∧ (X 44 0).testBit c = true ∧ P c) ↔ ((∃ c, 1 ≤ c ∧ c ≤ n ∧ (X 44 0).testBit c = true ∧ P c) ∨ P (n + 1))) := fun P hb =>
      ⟨fun ⟨c, g1, g2, g3, g4⟩ => by
        by_cases e : c = n + 1
        · rw [e] at g4
          exact Or.inr g4
        · exact Or.inl ⟨c, g1, by omega, g3, g4⟩, fun h => by
        rcases h with ⟨c, g1, g2, g3, g4⟩ | g4
        · exact ⟨c, g1, by omega, g3, g4⟩
        · exact ⟨n + 1, by omega, by omega, hb, g4⟩⟩
    by_cases hb : (X 44 0).testBit (n + 1) = true
    · rw [if_pos hb]
      refine ⟨fun r => ?_, fun r => ?_, fun x => ?_⟩
      · rw [hstep2 _ hb, ← or_assoc, ← i1 r, vd_ka_13]
        show (if r = X 4 (n + 1) then 1 else vd_ko X n 13 r) ≠ 0 ↔ _
        by_cases e : r = X 4 (n + 1)
        · rw [if_pos e]
          exact ⟨fun _ => Or.inr e.symm, fun _ => by decide⟩
        · rw [if_neg e]
          exact ⟨fun h => Or.inl h, fun h => h.resolve_right (fun z => e z.symm)⟩
      · rw [hstep2 _ hb, ← or_assoc, ← i2 r, vd_ka_11, vd_ko_o2 X (a := 12) (by decide) (by decide) (by decide)]
      · rw [hstep2 _ hb, ← or_assoc, ← i3 x, vd_ka_9, vd_ko_o2 X (a := 12) (by decide) (by decide) (by decide), vd_ko_o2 X (a := 10) (by decide) (by decide) (by decide)]
    · rw [if_neg hb]
      refine ⟨fun r => ?_, fun r => ?_, fun x => ?_⟩
      · rw [hstep _ hb]
        exact i1 r
      · rw [hstep _ hb]
        exact i2 r
      · rw [hstep _ hb]
        exact i3 x
theorem vd_swK_m {K : KT} {a : Nat} (h9 : a ≠ 9) (h11 : a ≠ 11) (h13 : a ≠ 13) (h44 : a ≠ 44) : vd_swK K a = K a := by
  unfold vd_swK vd_koK
  rw [vd_bks_o _ _ _ h9, vd_ko_o2 _ h9 h11 h13, vd_st_o h44, vd_fl_o h13, vd_fl_o h11, vd_fl_o h9]
theorem vd_swKM_m {K : KT} {a : Nat} (h15 : a ≠ 15) (h20 : a ≠ 20) (h21 : a ≠ 21) (h22 : a ≠ 22) : vd_swKM K a = K a := by
  unfold vd_swKM
  rw [vd_st_o h20, vd_sw4_o _ h20, vd_sw3_o _ h20 h15, vd_fl_o h20, vd_sw1_o _ h22 h21, vd_fl_o h22]
/-- what the class keeps -/
theorem vd_swK_all {K : KT} : vd_swK K 44 0 = vd_need K 6 ∧
    (∀ r, r < 31 → (vd_swK K 13 r ≠ 0 ↔ ∃ c, 1 ≤ c ∧ c ≤ K 43 0 ∧ (vd_need K 6).testBit c = true ∧ K 4 c = r)) ∧
    (∀ r, r < 121 → (vd_swK K 11 r ≠ 0 ↔ ∃ c, 1 ≤ c ∧ c ≤ K 43 0 ∧ (vd_need K 6).testBit c = true ∧ ∃ p, p < 4 ∧ K 12 (K 4 c * 4 + p) = r)) ∧
    (∀ x, x < 10048 → (bt (vd_swK K 9) x ↔ (x ≠ 0 ∧ ((∃ c, 1 ≤ c ∧ c ≤ K 43 0 ∧ (vd_need K 6).testBit c = true ∧ ∃ p, p < 4 ∧ ∃ q, q < 4 ∧ K 10 (K 12 (K 4 c * 4 + p) * 4 + q) = x) ∨ ∃ f, f < 16 ∧ K 1 f = x)))) := by
  obtain ⟨X, hX⟩ : ∃ X, X = vd_st (vd_fl (vd_fl (vd_fl K 9 0 157 (fun _ => 0)) 11 0 121 (fun _ => 0)) 13 0 31 (fun _ => 0)) 44 0 (vd_need K 6) := ⟨_, rfl⟩
  have e : vd_swK K = vd_bks (vd_ko X (K 43 0)) 1 0 16 := by rw [hX]; rfl
  have xo : ∀ a, a ≠ 9 → a ≠ 11 → a ≠ 13 → a ≠ 44 → X a = K a := fun a h9 h11 h13 h44 => by rw [hX, vd_st_o h44, vd_fl_o h13, vd_fl_o h11, vd_fl_o h9]
  have x44 : X 44 0 = vd_need K 6 := by rw [hX]; rfl
  have x13 : ∀ r, r < 31 → X 13 r = 0 := fun r hr => by
    rw [hX, vd_st_o (by decide), vd_fl_i]
    exact if_pos (by omega)
  have x11 : ∀ r, r < 121 → X 11 r = 0 := fun r hr => by
    rw [hX, vd_st_o (by decide), vd_fl_o (by decide), vd_fl_i]
    exact if_pos (by omega)
  have x9 : ∀ r, r < 157 → X 9 r = 0 := fun r hr => by
    rw [hX, vd_st_o (by decide), vd_fl_o (by decide), vd_fl_o (by decide), vd_fl_i]
    exact if_pos (by omega)
  obtain ⟨k1, k2, k3⟩ := vd_ko_all X (K 43 0)
  rw [x44, xo 4 (by decide) (by decide) (by decide) (by decide)] at k1
  rw [x44, xo 4 (by decide) (by decide) (by decide) (by decide), xo 12 (by decide) (by decide) (by decide) (by decide)] at k2
  rw [x44, xo 4 (by decide) (by decide) (by decide) (by decide), xo 12 (by decide) (by decide) (by decide) (by decide), xo 10 (by decide) (by decide) (by decide) (by decide)] at k3
  rw [e]
  refine ⟨?_, fun r hr => ?_, fun r hr => ?_, fun x hx => ?_⟩
  · rw [vd_bks_o _ _ _ (by decide), vd_ko_o2 _ (by decide) (by decide) (by decide), x44]
  · rw [vd_bks_o _ _ _ (by decide), k1 r, x13 r hr]
    exact ⟨fun h => h.resolve_left (fun z => z rfl), fun h => Or.inr h⟩
  · rw [vd_bks_o _ _ _ (by decide), k2 r, x11 r hr]
    exact ⟨fun h => h.resolve_left (fun z => z rfl), fun h => Or.inr h⟩
  · rw [vd_bks_9, bt_n, k3 x, vd_ko_o2 _ (by decide) (by decide) (by decide), xo 1 (by decide) (by decide) (by decide) (by decide)]
    have z : ¬ bt (X 9) x := by
      unfold bt
      rw [x9 _ (by omega), Nat.zero_testBit]
      decide
    constructor
    · rintro ((h | ⟨c, g1, g2, g3, g4, g5⟩) | ⟨h, f, g1, g2⟩)
      · exact absurd h z
      · exact ⟨g4, Or.inl ⟨c, g1, g2, g3, g5⟩⟩
      · exact ⟨h, Or.inr ⟨f, g1, by rw [← g2, Nat.zero_add]⟩⟩
    · rintro ⟨h, ⟨c, g1, g2, g3, g5⟩ | ⟨f, g1, g2⟩⟩
      · exact Or.inl (Or.inr ⟨c, g1, g2, g3, h, g5⟩)
      · exact Or.inr ⟨h, f, g1, by rw [← g2, Nat.zero_add]⟩
/-- what the reference keeps -/
theorem vd_swKM_all {M : Nat} {an : Nat → Nat} {K : KT} (hA : vd_An M an (K 16) (K 17)) (hM : M ≤ 30) (hs : ∀ b, b < 7 → vd_swb K b ≤ M) :
    (∀ k, 1 ≤ k → k ≤ 30 → (vd_swKM K 15 k ≠ 0 ↔ ∃ b, b < 7 ∧ (an (vd_swb K b)).testBit k = true)) ∧ vd_swKM K 20 0 = 0 ∧
    (∀ x, 1 ≤ x → x < 10000 → (vd_swKM K 20 x ≠ 0 ↔ ((∃ k, 1 ≤ k ∧ k ≤ 30 ∧ (∃ b, b < 7 ∧ (an (vd_swb K b)).testBit k = true) ∧ ∃ f, f < 16 ∧ K 14 (16 * k + f) = x) ∨ ∃ f, f < 16 ∧ K 14 (512 + f) = x))) := by
  obtain ⟨X, hX⟩ : ∃ X, X = vd_fl K 22 0 31 (fun _ => 0) := ⟨_, rfl⟩
  obtain ⟨Z, hZ⟩ : ∃ Z, Z = vd_fl (vd_sw1 X 7) 20 0 10000 (fun _ => 0) := ⟨_, rfl⟩
  have e : vd_swKM K = vd_st (vd_sw4 (vd_sw3 Z 30) 16) 20 0 0 := by rw [hZ, hX]; rfl
  have xo : ∀ a, a ≠ 22 → X a = K a := fun a h => by rw [hX]; exact vd_fl_o h
  have xb : ∀ b, vd_swb X b = vd_swb K b := fun b => by
    unfold vd_swb
    rw [xo 18 (by decide), xo 49 (by decide)]
  have z22 : ∀ k, 1 ≤ k → k ≤ 30 → (Z 22 k ≠ 0 ↔ ∃ b, b < 7 ∧ (an (vd_swb K b)).testBit k = true) := fun k h1 h2 => by
    have := vd_sw1_22 (X := X) (an := an) (M := M) (by rw [xo 16 (by decide), xo 17 (by decide)]; exact hA) hM h2 7 (fun b hb => by rw [xb b]; exact hs b hb)
    rw [hZ, vd_fl_o (by decide), this]
    have x0 : X 22 k = 0 := by
      rw [hX, vd_fl_i]
      exact if_pos (by omega)
    rw [x0]
    constructor
    · rintro (h | ⟨b, hb, h⟩)
      · exact absurd rfl h
      · exact ⟨b, hb, by rw [← xb b]; exact h⟩
    · rintro ⟨b, hb, h⟩
      exact Or.inr ⟨b, hb, by rw [xb b]; exact h⟩
  have z20 : ∀ x, x < 10000 → Z 20 x = 0 := fun x hx => by
    rw [hZ, vd_fl_i]
    exact if_pos (by omega)
  have z14 : Z 14 = K 14 := by rw [hZ, vd_fl_o (by decide), vd_sw1_o _ (by decide) (by decide), xo 14 (by decide)]
  rw [e]
  refine ⟨fun k h1 h2 => ?_, ?_, fun x h1 h2 => ?_⟩
  · rw [vd_st_o (by decide), vd_sw4_o _ (by decide), vd_sw3_15, if_pos ⟨h1, h2⟩]
    exact z22 k h1 h2
  · rw [vd_st_s]
    exact if_pos rfl
  · rw [vd_st_s]
    show (if x = 0 then 0 else vd_sw4 (vd_sw3 Z 30) 16 20 x) ≠ 0 ↔ _
    rw [if_neg (by omega), vd_sw4_20, vd_sw3_20, vd_sw3_o _ (by decide) (by decide), z14, z20 x h2]
    constructor
    · rintro ((h | ⟨k, g1, g2, g3, g4⟩) | h)
      · exact absurd rfl h
      · exact Or.inl ⟨k, g1, g2, (z22 k g1 g2).mp g3, g4⟩
      · exact Or.inr h
    · rintro (⟨k, g1, g2, g3, g4⟩ | h)
      · exact Or.inl (Or.inr ⟨k, g1, g2, (z22 k g1 g2).mpr g3, g4⟩)
      · exact Or.inr h
theorem vd_obM_of {K K1 : KT} (e14 : K1 14 = K 14) (e15 : K1 15 = K 15) (e20 : K1 20 = K 20) : vd_obM K1 = vd_obM K := by
  have s : ∀ a b, vd_same K1 a b = vd_same K a b := fun a b => by unfold vd_same; rw [e14]
  have al : ∀ a b, vd_alM K1 a b = vd_alM K a b := fun a b => by unfold vd_alM; rw [e14]
  have o : ∀ a, vd_orM K1 a = vd_orM K a := fun a => by unfold vd_orM; rw [e14]
  have f : ∀ t, vd_frF K1 t = vd_frF K t := fun t => by
    unfold vd_frF
    apply decide_eq_decide.mpr
    rw [e15, o]
    simp only [al]
  have r : ∀ t, vd_frR K1 t = vd_frR K t := fun t => by
    unfold vd_frR
    apply decide_eq_decide.mpr
    rw [e15]
    simp only [s]
  unfold vd_obM vd_c0 vd_c1 vd_c2 vd_c3
  rw [e15, e20, vd_cn_congr (P' := fun t => vd_frF K t) (fun i _ => f i), vd_cn_congr (P' := fun i => vd_frR K (i + 1)) (fun i _ => r (i + 1))]
theorem vd_size_of {K K1 : KT} (e9 : K1 9 = K 9) (e11 : K1 11 = K 11) (e13 : K1 13 = K 13) (e44 : K1 44 = K 44) (e45 : K1 45 = K 45) (e46 : K1 46 = K 46) : vd_size K1 = vd_size K := by
  have b : ∀ n, vd_bsz K1 n = vd_bsz K n := fun n => by
    induction n with
    | zero => rfl
    | succ n ih =>
      show vd_bsz K1 n + vd_pc 64 (K1 9 n) = vd_bsz K n + vd_pc 64 (K 9 n)
      rw [ih, e9]
  unfold vd_size vd_rsz
  rw [b, e11, e13, e44, e45, e46]
theorem rl_sweep {K : KT} (h : vd_Rel K) (hB : vd_Bd K) : vd_Rel (vd_swKM (vd_swK K)) := by
  obtain ⟨r1, r2, r3, r4, r5, r6, r7, r8, r9, r10, r11, r12, r13⟩ := h
  have hM : K 43 0 ≤ 30 := hB 43 0 (by decide)
  have hL : K 45 0 ≤ 120 := hB 45 0 (by decide)
  have hN : K 46 0 ≤ 30 := hB 46 0 (by decide)
  obtain ⟨s44, s13, s11, s9⟩ := vd_swK_all (K := K)
  have co : ∀ a, a ≠ 9 → a ≠ 11 → a ≠ 13 → a ≠ 44 → vd_swK K a = K a := fun a h9 h11 h13 h44 => vd_swK_m h9 h11 h13 h44
  generalize vd_swK K = K1 at *
  have eb : ∀ b, vd_swb K1 b = if b < 6 then K 3 b else K 41 0 := fun b => by
    unfold vd_swb
    rw [co 18 (by decide) (by decide) (by decide) (by decide), co 49 (by decide) (by decide) (by decide) (by decide), r2.1, r1.2.2]
  have hA : vd_An (K 43 0) (K 7) (K1 16) (K1 17) := by
    rw [co 16 (by decide) (by decide) (by decide) (by decide), co 17 (by decide) (by decide) (by decide) (by decide), r2.2.1, r2.2.2]
    exact r8
  have hs : ∀ b, b < 7 → vd_swb K1 b ≤ K 43 0 := fun b _ => by
    rw [eb]
    split
    · exact r9.1 b
    · exact r9.2
  obtain ⟨m15, m200, m20⟩ := vd_swKM_all hA hM hs
  rw [co 14 (by decide) (by decide) (by decide) (by decide)] at m20
  have mo : ∀ a, a ≠ 15 → a ≠ 20 → a ≠ 21 → a ≠ 22 → vd_swKM K1 a = K1 a := fun a h15 h20 h21 h22 => vd_swKM_m h15 h20 h21 h22
  generalize vd_swKM K1 = K2 at *
  have need : ∀ k, (vd_need K 6).testBit k = true ↔ ∃ b, b < 7 ∧ (K 7 (vd_swb K1 b)).testBit k = true := fun k => by
    rw [vd_need_bit]
    constructor
    · rintro (z | ⟨b, hb, z⟩)
      · exact ⟨6, by omega, by rw [eb, if_neg (by omega)]; exact z⟩
      · exact ⟨b, by omega, by rw [eb, if_pos hb]; exact z⟩
    · rintro ⟨b, hb, z⟩
      rw [eb] at z
      by_cases e : b < 6
      · rw [if_pos e] at z
        exact Or.inr ⟨b, e, z⟩
      · rw [if_neg e] at z
        exact Or.inl z
  have nle : ∀ k, (vd_need K 6).testBit k = true → 1 ≤ k ∧ k ≤ K 43 0 := fun k z => by
    obtain ⟨b, hb, z⟩ := (need k).mp z
    have := hA.le _ (hs b hb) k z
    have := hs b hb
    omega
  have c2 : ∀ a, a ∈ [0, 1, 3, 4, 5, 6, 7, 10, 12, 40, 41, 42, 43, 45, 46, 47, 48, 49, 14, 16, 17, 18, 19] → K2 a = K a := fun a ha => by
    simp only [List.mem_cons, List.not_mem_nil, or_false] at ha
    rw [mo a (by omega) (by omega) (by omega) (by omega), co a (by omega) (by omega) (by omega) (by omega)]
  have d9 : K2 9 = K1 9 := mo 9 (by decide) (by decide) (by decide) (by decide)
  have d11 : K2 11 = K1 11 := mo 11 (by decide) (by decide) (by decide) (by decide)
  have d13 : K2 13 = K1 13 := mo 13 (by decide) (by decide) (by decide) (by decide)
  have d44 : K2 44 0 = vd_need K 6 := by rw [mo 44 (by decide) (by decide) (by decide) (by decide), s44]
  unfold vd_Rel
  rw [d9, d11, d13, d44, c2 0 (by decide), c2 1 (by decide), c2 3 (by decide), c2 4 (by decide), c2 5 (by decide), c2 6 (by decide), c2 7 (by decide), c2 10 (by decide), c2 12 (by decide), c2 40 (by decide), c2 41 (by decide), c2 42 (by decide), c2 43 (by decide), c2 45 (by decide), c2 46 (by decide), c2 47 (by decide), c2 48 (by decide), c2 49 (by decide), c2 14 (by decide), c2 16 (by decide), c2 17 (by decide), c2 18 (by decide), c2 19 (by decide)]
  refine ⟨r1, r2, r3, r4, r5, r6, ⟨?_, fun c h1 h2 => ⟨?_, fun z => (nle c z).2⟩⟩, r8, r9, r10, fun r h1 h2 => ?_, fun r h1 h2 => ?_, ⟨m200, fun x hx => ?_⟩⟩
  · cases z : (vd_need K 6).testBit 0 with
    | false => rfl
    | true => exact absurd (nle 0 z).1 (by omega)
  · rw [m15 c h1 h2]
    exact need c
  · rw [s11 r (by omega)]
    exact ⟨fun ⟨c, g1, g2, g3⟩ => ⟨c, g1, by omega, g3⟩, fun ⟨c, g1, g2, g3⟩ => ⟨c, g1, (nle c g3.1).2, g3⟩⟩
  · rw [s13 r (by omega)]
    exact ⟨fun ⟨c, g1, g2, g3⟩ => ⟨c, g1, by omega, g3⟩, fun ⟨c, g1, g2, g3⟩ => ⟨c, g1, (nle c g3.1).2, g3⟩⟩
  · refine (s9 x hx).trans ?_
    have hK1 : ∀ f, f < 16 → K 14 (512 + f) = K 1 f := r5
    constructor
    · rintro ⟨h0, z⟩
      have hlt : x < 10000 := by
        rcases z with ⟨c, g1, g2, g3, p, hp, q, hq, g4⟩ | ⟨f, hf, g⟩
        · have e := rl_con r3 (c := c) (by omega) hp hq
          unfold rl_fn at e
          rw [g4] at e
          have := hB 14 (16 * c + (4 * p + q)) (by show 16 * c + (4 * p + q) < 544; omega)
          have : K 14 (16 * c + (4 * p + q)) ≤ 9999 := this
          omega
        · have : K 1 f ≤ 9999 := hB 1 f hf
          omega
      refine ⟨hlt, (m20 x (by omega) hlt).mpr ?_⟩
      rcases z with ⟨c, g1, g2, g3, p, hp, q, hq, g4⟩ | ⟨f, hf, g⟩
      · refine Or.inl ⟨c, g1, by omega, (need c).mp g3, 4 * p + q, by omega, ?_⟩
        have e := rl_con r3 (c := c) (by omega) hp hq
        unfold rl_fn at e
        rw [e, g4]
      · exact Or.inr ⟨f, hf, by rw [hK1 f hf, g]⟩
    · rintro ⟨hlt, z⟩
      have h0 : x ≠ 0 := fun e => by
        rw [e, m200] at z
        exact z rfl
      refine ⟨h0, ?_⟩
      rcases (m20 x (by omega) hlt).mp z with ⟨k, g1, g2, g3, f, hf, g4⟩ | ⟨f, hf, g⟩
      · have g3' := (need k).mpr g3
        refine Or.inl ⟨k, g1, (nle k g3').2, g3', f / 4, by omega, f % 4, by omega, ?_⟩
        have e := rl_con r3 (c := k) g2 (p := f / 4) (q := f % 4) (by omega) (by omega)
        unfold rl_fn at e
        rw [← e, ← g4]
        congr 1
        omega
      · exact Or.inr ⟨f, hf, by rw [← hK1 f hf, g]⟩
theorem op_sweep {K : KT} (h : vd_Rel K) (hB : vd_Bd K) (hB2 : vd_Bd (vd_swKM (vd_swK K))) : nI (vd_size K) - nI (vd_size (vd_swK K)) = nI (vd_obM (vd_swK K)) - nI (vd_obM (vd_swKM (vd_swK K))) ∧ vd_Rel (vd_swKM (vd_swK K)) := by
  have h2 := rl_sweep h hB
  refine ⟨?_, h2⟩
  have e1 := rl_size h hB
  have e2 := rl_size h2 hB2
  have e3 : vd_size (vd_swKM (vd_swK K)) = vd_size (vd_swK K) := vd_size_of (vd_swKM_m (by decide) (by decide) (by decide) (by decide)) (vd_swKM_m (by decide) (by decide) (by decide) (by decide)) (vd_swKM_m (by decide) (by decide) (by decide) (by decide)) (vd_swKM_m (by decide) (by decide) (by decide) (by decide)) (vd_swKM_m (by decide) (by decide) (by decide) (by decide)) (vd_swKM_m (by decide) (by decide) (by decide) (by decide))
  have e4 : vd_obM (vd_swK K) = vd_obM K := vd_obM_of (vd_swK_m (by decide) (by decide) (by decide) (by decide)) (vd_swK_m (by decide) (by decide) (by decide) (by decide)) (vd_swK_m (by decide) (by decide) (by decide) (by decide))
  rw [e4, ← e1, ← e2, e3]
end
