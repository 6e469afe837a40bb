-- ===== PART A: goes FIRST, ahead of the names: the tables' words, and 'selects' of the private methods out of them =====
/-- a private method of a class that the tables say can be made, by its rows of tables_1 -/
def lw_okq (q : MethodName × Nat) : Prop := (q.1.cls ≠ "java/lang/invoke/MethodHandle" ∧ q.1.cls ≠ "java/lang/invoke/VarHandle") ∧ Cond.instantiable q.1.cls q.2 ∈ tables_1 ∧ Cond.privateMethod q.1 ∈ tables_1 ∧ Cond.instanceMethod q.1 ∈ tables_1
theorem lw_p0 : lw_okq (⟨"VersionDepot", "isAsHere", "([I)Z"⟩, 8) := ⟨⟨by decide +kernel, by decide +kernel⟩, List.mem_of_getElem? (i := 10) (by decide +kernel), List.mem_of_getElem? (i := 132) (by decide +kernel), List.mem_of_getElem? (i := 133) (by decide +kernel)⟩
theorem lw_p1 : lw_okq (⟨"VersionDepot", "here", "()I"⟩, 8) := ⟨⟨by decide +kernel, by decide +kernel⟩, List.mem_of_getElem? (i := 10) (by decide +kernel), List.mem_of_getElem? (i := 136) (by decide +kernel), List.mem_of_getElem? (i := 137) (by decide +kernel)⟩
theorem lw_p2 : lw_okq (⟨"VersionDepot", "isThere", "(I)Z"⟩, 8) := ⟨⟨by decide +kernel, by decide +kernel⟩, List.mem_of_getElem? (i := 10) (by decide +kernel), List.mem_of_getElem? (i := 187) (by decide +kernel), List.mem_of_getElem? (i := 188) (by decide +kernel)⟩
theorem lw_p3 : lw_okq (⟨"VersionDepot", "isTidy", "()Z"⟩, 8) := ⟨⟨by decide +kernel, by decide +kernel⟩, List.mem_of_getElem? (i := 10) (by decide +kernel), List.mem_of_getElem? (i := 191) (by decide +kernel), List.mem_of_getElem? (i := 192) (by decide +kernel)⟩
theorem lw_p4 : lw_okq (⟨"VersionDepot", "unstaged", "()I"⟩, 8) := ⟨⟨by decide +kernel, by decide +kernel⟩, List.mem_of_getElem? (i := 10) (by decide +kernel), List.mem_of_getElem? (i := 195) (by decide +kernel), List.mem_of_getElem? (i := 196) (by decide +kernel)⟩
theorem lw_p5 : lw_okq (⟨"VersionDepot", "moveTo", "(I)I"⟩, 8) := ⟨⟨by decide +kernel, by decide +kernel⟩, List.mem_of_getElem? (i := 10) (by decide +kernel), List.mem_of_getElem? (i := 199) (by decide +kernel), List.mem_of_getElem? (i := 200) (by decide +kernel)⟩
theorem lw_p6 : lw_okq (⟨"VersionDepot", "mergeApart", "(I)I"⟩, 8) := ⟨⟨by decide +kernel, by decide +kernel⟩, List.mem_of_getElem? (i := 10) (by decide +kernel), List.mem_of_getElem? (i := 211) (by decide +kernel), List.mem_of_getElem? (i := 212) (by decide +kernel)⟩
theorem lw_p7 : lw_okq (⟨"VersionDepot", "mixHereWith", "(II)I"⟩, 8) := ⟨⟨by decide +kernel, by decide +kernel⟩, List.mem_of_getElem? (i := 10) (by decide +kernel), List.mem_of_getElem? (i := 219) (by decide +kernel), List.mem_of_getElem? (i := 220) (by decide +kernel)⟩
theorem lw_p8 : lw_okq (⟨"VersionDepotModel", "clashes", "()I"⟩, 12) := ⟨⟨by decide +kernel, by decide +kernel⟩, List.mem_of_getElem? (i := 341) (by decide +kernel), List.mem_of_getElem? (i := 399) (by decide +kernel), List.mem_of_getElem? (i := 400) (by decide +kernel)⟩
theorem lw_p9 : lw_okq (⟨"VersionDepotModel", "here", "()I"⟩, 12) := ⟨⟨by decide +kernel, by decide +kernel⟩, List.mem_of_getElem? (i := 341) (by decide +kernel), List.mem_of_getElem? (i := 403) (by decide +kernel), List.mem_of_getElem? (i := 404) (by decide +kernel)⟩
theorem lw_p10 : lw_okq (⟨"VersionDepotModel", "same", "(II)Z"⟩, 12) := ⟨⟨by decide +kernel, by decide +kernel⟩, List.mem_of_getElem? (i := 341) (by decide +kernel), List.mem_of_getElem? (i := 407) (by decide +kernel), List.mem_of_getElem? (i := 408) (by decide +kernel)⟩
theorem lw_p11 : lw_okq (⟨"VersionDepotModel", "make", "(III)I"⟩, 12) := ⟨⟨by decide +kernel, by decide +kernel⟩, List.mem_of_getElem? (i := 341) (by decide +kernel), List.mem_of_getElem? (i := 411) (by decide +kernel), List.mem_of_getElem? (i := 412) (by decide +kernel)⟩
theorem lw_p12 : lw_okq (⟨"VersionDepotModel", "copy", "(II)V"⟩, 12) := ⟨⟨by decide +kernel, by decide +kernel⟩, List.mem_of_getElem? (i := 341) (by decide +kernel), List.mem_of_getElem? (i := 415) (by decide +kernel), List.mem_of_getElem? (i := 416) (by decide +kernel)⟩
theorem lw_p13 : lw_okq (⟨"VersionDepotModel", "tidy", "()Z"⟩, 12) := ⟨⟨by decide +kernel, by decide +kernel⟩, List.mem_of_getElem? (i := 341) (by decide +kernel), List.mem_of_getElem? (i := 427) (by decide +kernel), List.mem_of_getElem? (i := 428) (by decide +kernel)⟩
theorem lw_p14 : lw_okq (⟨"VersionDepotModel", "show", "(I)V"⟩, 12) := ⟨⟨by decide +kernel, by decide +kernel⟩, List.mem_of_getElem? (i := 341) (by decide +kernel), List.mem_of_getElem? (i := 431) (by decide +kernel), List.mem_of_getElem? (i := 432) (by decide +kernel)⟩
theorem lw_p15 : lw_okq (⟨"VersionDepotModel", "shared", "(II)I"⟩, 12) := ⟨⟨by decide +kernel, by decide +kernel⟩, List.mem_of_getElem? (i := 341) (by decide +kernel), List.mem_of_getElem? (i := 439) (by decide +kernel), List.mem_of_getElem? (i := 440) (by decide +kernel)⟩
def lw_privs_1 : List (MethodName × Nat) := [(⟨"VersionDepot", "isAsHere", "([I)Z"⟩, 8), (⟨"VersionDepot", "here", "()I"⟩, 8), (⟨"VersionDepot", "isThere", "(I)Z"⟩, 8), (⟨"VersionDepot", "isTidy", "()Z"⟩, 8), (⟨"VersionDepot", "unstaged", "()I"⟩, 8), (⟨"VersionDepot", "moveTo", "(I)I"⟩, 8), (⟨"VersionDepot", "mergeApart", "(I)I"⟩, 8), (⟨"VersionDepot", "mixHereWith", "(II)I"⟩, 8), (⟨"VersionDepotModel", "clashes", "()I"⟩, 12), (⟨"VersionDepotModel", "here", "()I"⟩, 12), (⟨"VersionDepotModel", "same", "(II)Z"⟩, 12), (⟨"VersionDepotModel", "make", "(III)I"⟩, 12), (⟨"VersionDepotModel", "copy", "(II)V"⟩, 12), (⟨"VersionDepotModel", "tidy", "()Z"⟩, 12), (⟨"VersionDepotModel", "show", "(I)V"⟩, 12), (⟨"VersionDepotModel", "shared", "(II)I"⟩, 12)]
theorem lw_r1 : ∀ q ∈ lw_privs_1, lw_okq q := List.forall_mem_cons.mpr ⟨lw_p0, List.forall_mem_cons.mpr ⟨lw_p1, List.forall_mem_cons.mpr ⟨lw_p2, List.forall_mem_cons.mpr ⟨lw_p3, List.forall_mem_cons.mpr ⟨lw_p4, List.forall_mem_cons.mpr ⟨lw_p5, List.forall_mem_cons.mpr ⟨lw_p6, List.forall_mem_cons.mpr ⟨lw_p7, List.forall_mem_cons.mpr ⟨lw_p8, List.forall_mem_cons.mpr ⟨lw_p9, List.forall_mem_cons.mpr ⟨lw_p10, List.forall_mem_cons.mpr ⟨lw_p11, List.forall_mem_cons.mpr ⟨lw_p12, List.forall_mem_cons.mpr ⟨lw_p13, List.forall_mem_cons.mpr ⟨lw_p14, List.forall_mem_cons.mpr ⟨lw_p15, fun _ h => absurd h List.not_mem_nil⟩⟩⟩⟩⟩⟩⟩⟩⟩⟩⟩⟩⟩⟩⟩⟩
theorem lw_p16 : lw_okq (⟨"VersionDepotModel", "mark", "(I)V"⟩, 12) := ⟨⟨by decide +kernel, by decide +kernel⟩, List.mem_of_getElem? (i := 341) (by decide +kernel), List.mem_of_getElem? (i := 443) (by decide +kernel), List.mem_of_getElem? (i := 444) (by decide +kernel)⟩
theorem lw_p17 : lw_okq (⟨"VersionDepotModel", "mix", "(IIIZ)I"⟩, 12) := ⟨⟨by decide +kernel, by decide +kernel⟩, List.mem_of_getElem? (i := 341) (by decide +kernel), List.mem_of_getElem? (i := 447) (by decide +kernel), List.mem_of_getElem? (i := 448) (by decide +kernel)⟩
theorem lw_p18 : lw_okq (⟨"VersionDepotModel", "isStored", "(I)Z"⟩, 12) := ⟨⟨by decide +kernel, by decide +kernel⟩, List.mem_of_getElem? (i := 341) (by decide +kernel), List.mem_of_getElem? (i := 459) (by decide +kernel), List.mem_of_getElem? (i := 460) (by decide +kernel)⟩
theorem lw_p19 : lw_okq (⟨"VersionDepotModel", "objects", "()I"⟩, 12) := ⟨⟨by decide +kernel, by decide +kernel⟩, List.mem_of_getElem? (i := 341) (by decide +kernel), List.mem_of_getElem? (i := 475) (by decide +kernel), List.mem_of_getElem? (i := 476) (by decide +kernel)⟩
theorem lw_p20 : lw_okq (⟨"VersionDepotModel", "folders", "()I"⟩, 12) := ⟨⟨by decide +kernel, by decide +kernel⟩, List.mem_of_getElem? (i := 341) (by decide +kernel), List.mem_of_getElem? (i := 483) (by decide +kernel), List.mem_of_getElem? (i := 484) (by decide +kernel)⟩
theorem lw_p21 : lw_okq (⟨"VersionDepotModel", "alike", "(II)Z"⟩, 12) := ⟨⟨by decide +kernel, by decide +kernel⟩, List.mem_of_getElem? (i := 341) (by decide +kernel), List.mem_of_getElem? (i := 487) (by decide +kernel), List.mem_of_getElem? (i := 488) (by decide +kernel)⟩
theorem lw_p22 : lw_okq (⟨"VersionDepotModel", "roots", "()I"⟩, 12) := ⟨⟨by decide +kernel, by decide +kernel⟩, List.mem_of_getElem? (i := 341) (by decide +kernel), List.mem_of_getElem? (i := 491) (by decide +kernel), List.mem_of_getElem? (i := 492) (by decide +kernel)⟩
theorem lw_p23 : lw_okq (⟨"VersionDepotModel", "changed", "()I"⟩, 12) := ⟨⟨by decide +kernel, by decide +kernel⟩, List.mem_of_getElem? (i := 341) (by decide +kernel), List.mem_of_getElem? (i := 495) (by decide +kernel), List.mem_of_getElem? (i := 496) (by decide +kernel)⟩
def lw_privs_2 : List (MethodName × Nat) := [(⟨"VersionDepotModel", "mark", "(I)V"⟩, 12), (⟨"VersionDepotModel", "mix", "(IIIZ)I"⟩, 12), (⟨"VersionDepotModel", "isStored", "(I)Z"⟩, 12), (⟨"VersionDepotModel", "objects", "()I"⟩, 12), (⟨"VersionDepotModel", "folders", "()I"⟩, 12), (⟨"VersionDepotModel", "alike", "(II)Z"⟩, 12), (⟨"VersionDepotModel", "roots", "()I"⟩, 12), (⟨"VersionDepotModel", "changed", "()I"⟩, 12)]
theorem lw_r2 : ∀ q ∈ lw_privs_2, lw_okq q := List.forall_mem_cons.mpr ⟨lw_p16, List.forall_mem_cons.mpr ⟨lw_p17, List.forall_mem_cons.mpr ⟨lw_p18, List.forall_mem_cons.mpr ⟨lw_p19, List.forall_mem_cons.mpr ⟨lw_p20, List.forall_mem_cons.mpr ⟨lw_p21, List.forall_mem_cons.mpr ⟨lw_p22, List.forall_mem_cons.mpr ⟨lw_p23, fun _ h => absurd h List.not_mem_nil⟩⟩⟩⟩⟩⟩⟩⟩
def lw_privs : List (MethodName × Nat) := lw_privs_1 ++ (lw_privs_2)
def lw_tbl : List Cond := k2_sels lw_privs ++ tables_1
theorem lw_privs_ok : ∀ q ∈ lw_privs, lw_okq q := by
  show ∀ q ∈ lw_privs_1 ++ (lw_privs_2), lw_okq q
  exact List.forall_mem_append.mpr ⟨lw_r1, lw_r2⟩

def vd_tbl : List Cond := lw_tbl.filter goodWord
theorem vd_mt {w : Cond} (h : w ∈ lw_tbl) (g : goodWord w = true) : w ∈ vd_tbl := List.mem_filter.mpr ⟨h, g⟩
theorem vd_mts {ws : List Cond} (h : ∀ w ∈ ws, w ∈ lw_tbl) (g : ws.all goodWord = true) : ∀ w ∈ ws, w ∈ vd_tbl := fun w hw => vd_mt (h w hw) (List.all_eq_true.mp g w hw)
def R_B : String := "VersionDepot$Blobs"
def T_B : u_T := fun k => match k with
  | _ => ("VersionDepot$Blobs", "bits", "[J", true)
def ty_B : Nat → FieldType := fun k => match k with
  | _ => .array .long
theorem nm_B : ∀ a, a < 1 → ∀ b, b < 1 → a ≠ b → (T_B a).2.1 ≠ (T_B b).2.1 := by decide +kernel
theorem tyok_B : ∀ k, k < 1 → parseFieldDescriptor (T_B k).2.2.1 = some (ty_B k) := by decide +kernel
theorem in_B : ∀ w ∈ u_ws R_B T_B 1, w ∈ vd_tbl := vd_mts (by decide +kernel) (by decide +kernel)
def R_W : String := "VersionDepot$Rows"
def T_W : u_T := fun k => match k with
  | 0 => ("VersionDepot$Rows", "numbers", "[I", true)
  | 1 => ("VersionDepot$Rows", "stored", "[Z", true)
  | _ => ("VersionDepot$Rows", "last", "I", false)
def ty_W : Nat → FieldType := fun k => match k with
  | 0 => .array .int
  | 1 => .array .boolean
  | _ => .int
theorem nm_W : ∀ a, a < 3 → ∀ b, b < 3 → a ≠ b → (T_W a).2.1 ≠ (T_W b).2.1 := by decide +kernel
theorem tyok_W : ∀ k, k < 3 → parseFieldDescriptor (T_W k).2.2.1 = some (ty_W k) := by decide +kernel
theorem in_W : ∀ w ∈ u_ws R_W T_W 3, w ∈ vd_tbl := vd_mts (by decide +kernel) (by decide +kernel)
def R_S : String := "VersionDepot$Store"
def T_S : u_T := fun k => match k with
  | 0 => ("VersionDepot$Store", "blobs", "LVersionDepot$Blobs;", true)
  | 1 => ("VersionDepot$Store", "folders", "LVersionDepot$Rows;", true)
  | 2 => ("VersionDepot$Store", "roots", "LVersionDepot$Rows;", true)
  | 3 => ("VersionDepot$Store", "rootOf", "[I", true)
  | 4 => ("VersionDepot$Store", "firstParents", "[I", true)
  | 5 => ("VersionDepot$Store", "secondParents", "[I", true)
  | 6 => ("VersionDepot$Store", "ancestors", "[I", true)
  | 7 => ("VersionDepot$Store", "folderRow", "[I", true)
  | 8 => ("VersionDepot$Store", "made", "I", false)
  | _ => ("VersionDepot$Store", "stored", "I", false)
def ty_S : Nat → FieldType := fun k => match k with
  | 0 => .object "VersionDepot$Blobs"
  | 1 => .object "VersionDepot$Rows"
  | 2 => .object "VersionDepot$Rows"
  | 3 => .array .int
  | 4 => .array .int
  | 5 => .array .int
  | 6 => .array .int
  | 7 => .array .int
  | 8 => .int
  | _ => .int
theorem nm_S : ∀ a, a < 10 → ∀ b, b < 10 → a ≠ b → (T_S a).2.1 ≠ (T_S b).2.1 := by decide +kernel
theorem tyok_S : ∀ k, k < 10 → parseFieldDescriptor (T_S k).2.2.1 = some (ty_S k) := by decide +kernel
theorem in_S : ∀ w ∈ u_ws R_S T_S 10, w ∈ vd_tbl := vd_mts (by decide +kernel) (by decide +kernel)
def R_D : String := "VersionDepot"
def T_D : u_T := fun k => match k with
  | 0 => ("VersionDepot", "store", "LVersionDepot$Store;", true)
  | 1 => ("VersionDepot", "work", "[I", true)
  | 2 => ("VersionDepot", "index", "[I", true)
  | 3 => ("VersionDepot", "mixture", "[I", true)
  | 4 => ("VersionDepot", "tips", "[I", true)
  | 5 => ("VersionDepot", "head", "I", false)
  | 6 => ("VersionDepot", "merging", "I", false)
  | _ => ("VersionDepot", "clashes", "I", false)
def ty_D : Nat → FieldType := fun k => match k with
  | 0 => .object "VersionDepot$Store"
  | 1 => .array .int
  | 2 => .array .int
  | 3 => .array .int
  | 4 => .array .int
  | 5 => .int
  | 6 => .int
  | _ => .int
theorem nm_D : ∀ a, a < 8 → ∀ b, b < 8 → a ≠ b → (T_D a).2.1 ≠ (T_D b).2.1 := by decide +kernel
theorem tyok_D : ∀ k, k < 8 → parseFieldDescriptor (T_D k).2.2.1 = some (ty_D k) := by decide +kernel
theorem in_D : ∀ w ∈ u_ws R_D T_D 8, w ∈ vd_tbl := vd_mts (by decide +kernel) (by decide +kernel)
def R_M : String := "VersionDepotModel"
def T_M : u_T := fun k => match k with
  | 0 => ("VersionDepotModel", "content", "[I", true)
  | 1 => ("VersionDepotModel", "stored", "[Z", true)
  | 2 => ("VersionDepotModel", "first", "[I", true)
  | 3 => ("VersionDepotModel", "second", "[I", true)
  | 4 => ("VersionDepotModel", "made", "I", false)
  | 5 => ("VersionDepotModel", "branch", "[I", true)
  | 6 => ("VersionDepotModel", "head", "I", false)
  | 7 => ("VersionDepotModel", "merging", "I", false)
  | 8 => ("VersionDepotModel", "clashing", "[Z", true)
  | 9 => ("VersionDepotModel", "blob", "[Z", true)
  | 10 => ("VersionDepotModel", "marked", "[Z", true)
  | _ => ("VersionDepotModel", "other", "[Z", true)
def ty_M : Nat → FieldType := fun k => match k with
  | 0 => .array .int
  | 1 => .array .boolean
  | 2 => .array .int
  | 3 => .array .int
  | 4 => .int
  | 5 => .array .int
  | 6 => .int
  | 7 => .int
  | 8 => .array .boolean
  | 9 => .array .boolean
  | 10 => .array .boolean
  | _ => .array .boolean
theorem nm_M : ∀ a, a < 12 → ∀ b, b < 12 → a ≠ b → (T_M a).2.1 ≠ (T_M b).2.1 := by decide +kernel
theorem tyok_M : ∀ k, k < 12 → parseFieldDescriptor (T_M k).2.2.1 = some (ty_M k) := by decide +kernel
theorem in_M : ∀ w ∈ u_ws R_M T_M 12, w ∈ vd_tbl := vd_mts (by decide +kernel) (by decide +kernel)
abbrev vwCl : List vw_C := [(R_B, T_B, 1), (R_W, T_W, 3), (R_S, T_S, 10), (R_D, T_D, 8), (R_M, T_M, 12)]
