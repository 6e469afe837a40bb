def y_D_init : MethodName := ⟨"VersionDepot", "<init>", "()V"⟩
abbrev c_D_init : ByteArray := prog_1_method_1_code
set_option maxRecDepth 100000 in
theorem mo_D_init : (y_D_init.cls ≠ "java/lang/invoke/MethodHandle" ∧ y_D_init.cls ≠ "java/lang/invoke/VarHandle" ∧ (parseMethodDescriptor y_D_init.desc).map (fun d => d.parameters.length) = some 0 ∧ Cond.code y_D_init c_D_init 1 (none) ∈ vd_tbl ∧ Cond.initialized y_D_init.cls ∈ vd_tbl) := ⟨by decide +kernel, by decide +kernel, by decide +kernel, vd_mt (List.mem_of_getElem? (i := 37) rfl) rfl, vd_mt (List.mem_of_getElem? (i := 25) (by decide +kernel)) rfl⟩
theorem wi_D_init : Cond.instanceMethod y_D_init ∈ vd_tbl := vd_mt (List.mem_of_getElem? (i := 36) (by decide +kernel)) rfl
def y_S_init : MethodName := ⟨"VersionDepot$Store", "<init>", "()V"⟩
abbrev c_S_init : ByteArray := prog_4_method_1_code
set_option maxRecDepth 100000 in
theorem mo_S_init : (y_S_init.cls ≠ "java/lang/invoke/MethodHandle" ∧ y_S_init.cls ≠ "java/lang/invoke/VarHandle" ∧ (parseMethodDescriptor y_S_init.desc).map (fun d => d.parameters.length) = some 0 ∧ Cond.code y_S_init c_S_init 1 (none) ∈ vd_tbl ∧ Cond.initialized y_S_init.cls ∈ vd_tbl) := ⟨by decide +kernel, by decide +kernel, by decide +kernel, vd_mt (List.mem_of_getElem? (i := 45) rfl) rfl, vd_mt (List.mem_of_getElem? (i := 26) (by decide +kernel)) rfl⟩
theorem wi_S_init : Cond.instanceMethod y_S_init ∈ vd_tbl := vd_mt (List.mem_of_getElem? (i := 44) (by decide +kernel)) rfl
def y_B_init : MethodName := ⟨"VersionDepot$Blobs", "<init>", "()V"⟩
abbrev c_B_init : ByteArray := prog_2_method_1_code
set_option maxRecDepth 100000 in
theorem mo_B_init : (y_B_init.cls ≠ "java/lang/invoke/MethodHandle" ∧ y_B_init.cls ≠ "java/lang/invoke/VarHandle" ∧ (parseMethodDescriptor y_B_init.desc).map (fun d => d.parameters.length) = some 0 ∧ Cond.code y_B_init c_B_init 1 (none) ∈ vd_tbl ∧ Cond.initialized y_B_init.cls ∈ vd_tbl) := ⟨by decide +kernel, by decide +kernel, by decide +kernel, vd_mt (List.mem_of_getElem? (i := 51) rfl) rfl, vd_mt (List.mem_of_getElem? (i := 27) (by decide +kernel)) rfl⟩
theorem wi_B_init : Cond.instanceMethod y_B_init ∈ vd_tbl := vd_mt (List.mem_of_getElem? (i := 50) (by decide +kernel)) rfl
def y_W_init : MethodName := ⟨"VersionDepot$Rows", "<init>", "(I)V"⟩
abbrev c_W_init : ByteArray := prog_3_method_1_code
set_option maxRecDepth 100000 in
theorem mo_W_init : (y_W_init.cls ≠ "java/lang/invoke/MethodHandle" ∧ y_W_init.cls ≠ "java/lang/invoke/VarHandle" ∧ (parseMethodDescriptor y_W_init.desc).map (fun d => d.parameters.length) = some 1 ∧ Cond.code y_W_init c_W_init 2 (none) ∈ vd_tbl ∧ Cond.initialized y_W_init.cls ∈ vd_tbl) := ⟨by decide +kernel, by decide +kernel, by decide +kernel, vd_mt (List.mem_of_getElem? (i := 62) rfl) rfl, vd_mt (List.mem_of_getElem? (i := 28) (by decide +kernel)) rfl⟩
theorem wi_W_init : Cond.instanceMethod y_W_init ∈ vd_tbl := vd_mt (List.mem_of_getElem? (i := 61) (by decide +kernel)) rfl
def y_D_write : MethodName := ⟨"VersionDepot", "write", "(II)I"⟩
abbrev c_D_write : ByteArray := prog_1_method_2_code
set_option maxRecDepth 100000 in
theorem mo_D_write : (y_D_write.cls ≠ "java/lang/invoke/MethodHandle" ∧ y_D_write.cls ≠ "java/lang/invoke/VarHandle" ∧ (parseMethodDescriptor y_D_write.desc).map (fun d => d.parameters.length) = some 2 ∧ Cond.code y_D_write c_D_write 3 (some .int) ∈ vd_tbl ∧ Cond.initialized y_D_write.cls ∈ vd_tbl) := ⟨by decide +kernel, by decide +kernel, by decide +kernel, vd_mt (List.mem_of_getElem? (i := 139) rfl) rfl, vd_mt (List.mem_of_getElem? (i := 25) (by decide +kernel)) rfl⟩
theorem wi_D_write : Cond.instanceMethod y_D_write ∈ vd_tbl := vd_mt (List.mem_of_getElem? (i := 137) (by decide +kernel)) rfl
theorem ws_D_write : Cond.selects y_D_write.cls y_D_write y_D_write ∈ vd_tbl := vd_mt (List.mem_of_getElem? (i := 138) (by decide +kernel)) rfl
def y_D_isFile : MethodName := ⟨"VersionDepot", "isFile", "(I)Z"⟩
abbrev c_D_isFile : ByteArray := prog_1_method_21_code
set_option maxRecDepth 100000 in
theorem mo_D_isFile : (y_D_isFile.cls ≠ "java/lang/invoke/MethodHandle" ∧ y_D_isFile.cls ≠ "java/lang/invoke/VarHandle" ∧ (parseMethodDescriptor y_D_isFile.desc).map (fun d => d.parameters.length) = some 1 ∧ Cond.code y_D_isFile c_D_isFile 1 (some .boolean) ∈ vd_tbl ∧ Cond.initialized y_D_isFile.cls ∈ vd_tbl) := ⟨by decide +kernel, by decide +kernel, by decide +kernel, vd_mt (List.mem_of_getElem? (i := 142) rfl) rfl, vd_mt (List.mem_of_getElem? (i := 25) (by decide +kernel)) rfl⟩
theorem wt_D_isFile : Cond.static y_D_isFile ∈ vd_tbl := vd_mt (List.mem_of_getElem? (i := 141) (by decide +kernel)) rfl
def y_D_stage : MethodName := ⟨"VersionDepot", "stage", "(I)I"⟩
abbrev c_D_stage : ByteArray := prog_1_method_3_code
set_option maxRecDepth 100000 in
theorem mo_D_stage : (y_D_stage.cls ≠ "java/lang/invoke/MethodHandle" ∧ y_D_stage.cls ≠ "java/lang/invoke/VarHandle" ∧ (parseMethodDescriptor y_D_stage.desc).map (fun d => d.parameters.length) = some 1 ∧ Cond.code y_D_stage c_D_stage 2 (some .int) ∈ vd_tbl ∧ Cond.initialized y_D_stage.cls ∈ vd_tbl) := ⟨by decide +kernel, by decide +kernel, by decide +kernel, vd_mt (List.mem_of_getElem? (i := 146) rfl) rfl, vd_mt (List.mem_of_getElem? (i := 25) (by decide +kernel)) rfl⟩
theorem wi_D_stage : Cond.instanceMethod y_D_stage ∈ vd_tbl := vd_mt (List.mem_of_getElem? (i := 144) (by decide +kernel)) rfl
theorem ws_D_stage : Cond.selects y_D_stage.cls y_D_stage y_D_stage ∈ vd_tbl := vd_mt (List.mem_of_getElem? (i := 145) (by decide +kernel)) rfl
def y_B_keep : MethodName := ⟨"VersionDepot$Blobs", "keep", "(I)V"⟩
abbrev c_B_keep : ByteArray := prog_2_method_2_code
set_option maxRecDepth 100000 in
theorem mo_B_keep : (y_B_keep.cls ≠ "java/lang/invoke/MethodHandle" ∧ y_B_keep.cls ≠ "java/lang/invoke/VarHandle" ∧ (parseMethodDescriptor y_B_keep.desc).map (fun d => d.parameters.length) = some 1 ∧ Cond.code y_B_keep c_B_keep 2 (none) ∈ vd_tbl ∧ Cond.initialized y_B_keep.cls ∈ vd_tbl) := ⟨by decide +kernel, by decide +kernel, by decide +kernel, vd_mt (List.mem_of_getElem? (i := 150) rfl) rfl, vd_mt (List.mem_of_getElem? (i := 27) (by decide +kernel)) rfl⟩
theorem wi_B_keep : Cond.instanceMethod y_B_keep ∈ vd_tbl := vd_mt (List.mem_of_getElem? (i := 148) (by decide +kernel)) rfl
theorem ws_B_keep : Cond.selects y_B_keep.cls y_B_keep y_B_keep ∈ vd_tbl := vd_mt (List.mem_of_getElem? (i := 149) (by decide +kernel)) rfl
def y_D_commit : MethodName := ⟨"VersionDepot", "commit", "()I"⟩
abbrev c_D_commit : ByteArray := prog_1_method_4_code
set_option maxRecDepth 100000 in
theorem mo_D_commit : (y_D_commit.cls ≠ "java/lang/invoke/MethodHandle" ∧ y_D_commit.cls ≠ "java/lang/invoke/VarHandle" ∧ (parseMethodDescriptor y_D_commit.desc).map (fun d => d.parameters.length) = some 0 ∧ Cond.code y_D_commit c_D_commit 1 (some .int) ∈ vd_tbl ∧ Cond.initialized y_D_commit.cls ∈ vd_tbl) := ⟨by decide +kernel, by decide +kernel, by decide +kernel, vd_mt (List.mem_of_getElem? (i := 154) rfl) rfl, vd_mt (List.mem_of_getElem? (i := 25) (by decide +kernel)) rfl⟩
theorem wi_D_commit : Cond.instanceMethod y_D_commit ∈ vd_tbl := vd_mt (List.mem_of_getElem? (i := 152) (by decide +kernel)) rfl
theorem ws_D_commit : Cond.selects y_D_commit.cls y_D_commit y_D_commit ∈ vd_tbl := vd_mt (List.mem_of_getElem? (i := 153) (by decide +kernel)) rfl
def y_D_isAsHere : MethodName := ⟨"VersionDepot", "isAsHere", "([I)Z"⟩
abbrev c_D_isAsHere : ByteArray := prog_1_method_27_code
set_option maxRecDepth 100000 in
theorem mo_D_isAsHere : (y_D_isAsHere.cls ≠ "java/lang/invoke/MethodHandle" ∧ y_D_isAsHere.cls ≠ "java/lang/invoke/VarHandle" ∧ (parseMethodDescriptor y_D_isAsHere.desc).map (fun d => d.parameters.length) = some 1 ∧ Cond.code y_D_isAsHere c_D_isAsHere 3 (some .boolean) ∈ vd_tbl ∧ Cond.initialized y_D_isAsHere.cls ∈ vd_tbl) := ⟨by decide +kernel, by decide +kernel, by decide +kernel, vd_mt (List.mem_of_getElem? (i := 158) rfl) rfl, vd_mt (List.mem_of_getElem? (i := 25) (by decide +kernel)) rfl⟩
theorem wi_D_isAsHere : Cond.instanceMethod y_D_isAsHere ∈ vd_tbl := vd_mt (List.mem_of_getElem? (i := 157) (by decide +kernel)) rfl
theorem ws_D_isAsHere : Cond.selects y_D_isAsHere.cls y_D_isAsHere y_D_isAsHere ∈ vd_tbl := vd_mt (List.mem_of_getElem? (i := 0) (by decide +kernel)) rfl
def y_D_here : MethodName := ⟨"VersionDepot", "here", "()I"⟩
abbrev c_D_here : ByteArray := prog_1_method_24_code
set_option maxRecDepth 100000 in
theorem mo_D_here : (y_D_here.cls ≠ "java/lang/invoke/MethodHandle" ∧ y_D_here.cls ≠ "java/lang/invoke/VarHandle" ∧ (parseMethodDescriptor y_D_here.desc).map (fun d => d.parameters.length) = some 0 ∧ Cond.code y_D_here c_D_here 1 (some .int) ∈ vd_tbl ∧ Cond.initialized y_D_here.cls ∈ vd_tbl) := ⟨by decide +kernel, by decide +kernel, by decide +kernel, vd_mt (List.mem_of_getElem? (i := 162) rfl) rfl, vd_mt (List.mem_of_getElem? (i := 25) (by decide +kernel)) rfl⟩
theorem wi_D_here : Cond.instanceMethod y_D_here ∈ vd_tbl := vd_mt (List.mem_of_getElem? (i := 161) (by decide +kernel)) rfl
theorem ws_D_here : Cond.selects y_D_here.cls y_D_here y_D_here ∈ vd_tbl := vd_mt (List.mem_of_getElem? (i := 1) (by decide +kernel)) rfl
def y_S_contentOf : MethodName := ⟨"VersionDepot$Store", "contentOf", "(II)I"⟩
abbrev c_S_contentOf : ByteArray := prog_4_method_6_code
set_option maxRecDepth 100000 in
theorem mo_S_contentOf : (y_S_contentOf.cls ≠ "java/lang/invoke/MethodHandle" ∧ y_S_contentOf.cls ≠ "java/lang/invoke/VarHandle" ∧ (parseMethodDescriptor y_S_contentOf.desc).map (fun d => d.parameters.length) = some 2 ∧ Cond.code y_S_contentOf c_S_contentOf 3 (some .int) ∈ vd_tbl ∧ Cond.initialized y_S_contentOf.cls ∈ vd_tbl) := ⟨by decide +kernel, by decide +kernel, by decide +kernel, vd_mt (List.mem_of_getElem? (i := 166) rfl) rfl, vd_mt (List.mem_of_getElem? (i := 26) (by decide +kernel)) rfl⟩
theorem wi_S_contentOf : Cond.instanceMethod y_S_contentOf ∈ vd_tbl := vd_mt (List.mem_of_getElem? (i := 164) (by decide +kernel)) rfl
theorem ws_S_contentOf : Cond.selects y_S_contentOf.cls y_S_contentOf y_S_contentOf ∈ vd_tbl := vd_mt (List.mem_of_getElem? (i := 165) (by decide +kernel)) rfl
def y_W_get : MethodName := ⟨"VersionDepot$Rows", "get", "(II)I"⟩
abbrev c_W_get : ByteArray := prog_3_method_2_code
set_option maxRecDepth 100000 in
theorem mo_W_get : (y_W_get.cls ≠ "java/lang/invoke/MethodHandle" ∧ y_W_get.cls ≠ "java/lang/invoke/VarHandle" ∧ (parseMethodDescriptor y_W_get.desc).map (fun d => d.parameters.length) = some 2 ∧ Cond.code y_W_get c_W_get 3 (some .int) ∈ vd_tbl ∧ Cond.initialized y_W_get.cls ∈ vd_tbl) := ⟨by decide +kernel, by decide +kernel, by decide +kernel, vd_mt (List.mem_of_getElem? (i := 170) rfl) rfl, vd_mt (List.mem_of_getElem? (i := 28) (by decide +kernel)) rfl⟩
theorem wi_W_get : Cond.instanceMethod y_W_get ∈ vd_tbl := vd_mt (List.mem_of_getElem? (i := 168) (by decide +kernel)) rfl
theorem ws_W_get : Cond.selects y_W_get.cls y_W_get y_W_get ∈ vd_tbl := vd_mt (List.mem_of_getElem? (i := 169) (by decide +kernel)) rfl
def y_S_isFull : MethodName := ⟨"VersionDepot$Store", "isFull", "()Z"⟩
abbrev c_S_isFull : ByteArray := prog_4_method_2_code
set_option maxRecDepth 100000 in
theorem mo_S_isFull : (y_S_isFull.cls ≠ "java/lang/invoke/MethodHandle" ∧ y_S_isFull.cls ≠ "java/lang/invoke/VarHandle" ∧ (parseMethodDescriptor y_S_isFull.desc).map (fun d => d.parameters.length) = some 0 ∧ Cond.code y_S_isFull c_S_isFull 1 (some .boolean) ∈ vd_tbl ∧ Cond.initialized y_S_isFull.cls ∈ vd_tbl) := ⟨by decide +kernel, by decide +kernel, by decide +kernel, vd_mt (List.mem_of_getElem? (i := 174) rfl) rfl, vd_mt (List.mem_of_getElem? (i := 26) (by decide +kernel)) rfl⟩
theorem wi_S_isFull : Cond.instanceMethod y_S_isFull ∈ vd_tbl := vd_mt (List.mem_of_getElem? (i := 172) (by decide +kernel)) rfl
theorem ws_S_isFull : Cond.selects y_S_isFull.cls y_S_isFull y_S_isFull ∈ vd_tbl := vd_mt (List.mem_of_getElem? (i := 173) (by decide +kernel)) rfl
def y_S_make : MethodName := ⟨"VersionDepot$Store", "make", "([III)I"⟩
abbrev c_S_make : ByteArray := prog_4_method_11_code
set_option maxRecDepth 100000 in
theorem mo_S_make : (y_S_make.cls ≠ "java/lang/invoke/MethodHandle" ∧ y_S_make.cls ≠ "java/lang/invoke/VarHandle" ∧ (parseMethodDescriptor y_S_make.desc).map (fun d => d.parameters.length) = some 3 ∧ Cond.code y_S_make c_S_make 4 (some .int) ∈ vd_tbl ∧ Cond.initialized y_S_make.cls ∈ vd_tbl) := ⟨by decide +kernel, by decide +kernel, by decide +kernel, vd_mt (List.mem_of_getElem? (i := 178) rfl) rfl, vd_mt (List.mem_of_getElem? (i := 26) (by decide +kernel)) rfl⟩
theorem wi_S_make : Cond.instanceMethod y_S_make ∈ vd_tbl := vd_mt (List.mem_of_getElem? (i := 176) (by decide +kernel)) rfl
theorem ws_S_make : Cond.selects y_S_make.cls y_S_make y_S_make ∈ vd_tbl := vd_mt (List.mem_of_getElem? (i := 177) (by decide +kernel)) rfl
def y_S_keepRoot : MethodName := ⟨"VersionDepot$Store", "keepRoot", "([I)I"⟩
abbrev c_S_keepRoot : ByteArray := prog_4_method_12_code
set_option maxRecDepth 100000 in
theorem mo_S_keepRoot : (y_S_keepRoot.cls ≠ "java/lang/invoke/MethodHandle" ∧ y_S_keepRoot.cls ≠ "java/lang/invoke/VarHandle" ∧ (parseMethodDescriptor y_S_keepRoot.desc).map (fun d => d.parameters.length) = some 1 ∧ Cond.code y_S_keepRoot c_S_keepRoot 3 (some .int) ∈ vd_tbl ∧ Cond.initialized y_S_keepRoot.cls ∈ vd_tbl) := ⟨by decide +kernel, by decide +kernel, by decide +kernel, vd_mt (List.mem_of_getElem? (i := 182) rfl) rfl, vd_mt (List.mem_of_getElem? (i := 26) (by decide +kernel)) rfl⟩
theorem wi_S_keepRoot : Cond.instanceMethod y_S_keepRoot ∈ vd_tbl := vd_mt (List.mem_of_getElem? (i := 180) (by decide +kernel)) rfl
theorem ws_S_keepRoot : Cond.selects y_S_keepRoot.cls y_S_keepRoot y_S_keepRoot ∈ vd_tbl := vd_mt (List.mem_of_getElem? (i := 181) (by decide +kernel)) rfl
def y_S_keepFolder : MethodName := ⟨"VersionDepot$Store", "keepFolder", "([II)I"⟩
abbrev c_S_keepFolder : ByteArray := prog_4_method_13_code
set_option maxRecDepth 100000 in
theorem mo_S_keepFolder : (y_S_keepFolder.cls ≠ "java/lang/invoke/MethodHandle" ∧ y_S_keepFolder.cls ≠ "java/lang/invoke/VarHandle" ∧ (parseMethodDescriptor y_S_keepFolder.desc).map (fun d => d.parameters.length) = some 2 ∧ Cond.code y_S_keepFolder c_S_keepFolder 5 (some .int) ∈ vd_tbl ∧ Cond.initialized y_S_keepFolder.cls ∈ vd_tbl) := ⟨by decide +kernel, by decide +kernel, by decide +kernel, vd_mt (List.mem_of_getElem? (i := 186) rfl) rfl, vd_mt (List.mem_of_getElem? (i := 26) (by decide +kernel)) rfl⟩
theorem wi_S_keepFolder : Cond.instanceMethod y_S_keepFolder ∈ vd_tbl := vd_mt (List.mem_of_getElem? (i := 184) (by decide +kernel)) rfl
theorem ws_S_keepFolder : Cond.selects y_S_keepFolder.cls y_S_keepFolder y_S_keepFolder ∈ vd_tbl := vd_mt (List.mem_of_getElem? (i := 185) (by decide +kernel)) rfl
def y_W_keep : MethodName := ⟨"VersionDepot$Rows", "keep", "([II)I"⟩
abbrev c_W_keep : ByteArray := prog_3_method_3_code
set_option maxRecDepth 100000 in
theorem mo_W_keep : (y_W_keep.cls ≠ "java/lang/invoke/MethodHandle" ∧ y_W_keep.cls ≠ "java/lang/invoke/VarHandle" ∧ (parseMethodDescriptor y_W_keep.desc).map (fun d => d.parameters.length) = some 2 ∧ Cond.code y_W_keep c_W_keep 4 (some .int) ∈ vd_tbl ∧ Cond.initialized y_W_keep.cls ∈ vd_tbl) := ⟨by decide +kernel, by decide +kernel, by decide +kernel, vd_mt (List.mem_of_getElem? (i := 191) rfl) rfl, vd_mt (List.mem_of_getElem? (i := 28) (by decide +kernel)) rfl⟩
theorem wi_W_keep : Cond.instanceMethod y_W_keep ∈ vd_tbl := vd_mt (List.mem_of_getElem? (i := 189) (by decide +kernel)) rfl
theorem ws_W_keep : Cond.selects y_W_keep.cls y_W_keep y_W_keep ∈ vd_tbl := vd_mt (List.mem_of_getElem? (i := 190) (by decide +kernel)) rfl
def y_W_isAlike : MethodName := ⟨"VersionDepot$Rows", "isAlike", "(I[II)Z"⟩
abbrev c_W_isAlike : ByteArray := prog_3_method_4_code
set_option maxRecDepth 100000 in
theorem mo_W_isAlike : (y_W_isAlike.cls ≠ "java/lang/invoke/MethodHandle" ∧ y_W_isAlike.cls ≠ "java/lang/invoke/VarHandle" ∧ (parseMethodDescriptor y_W_isAlike.desc).map (fun d => d.parameters.length) = some 3 ∧ Cond.code y_W_isAlike c_W_isAlike 5 (some .boolean) ∈ vd_tbl ∧ Cond.initialized y_W_isAlike.cls ∈ vd_tbl) := ⟨by decide +kernel, by decide +kernel, by decide +kernel, vd_mt (List.mem_of_getElem? (i := 195) rfl) rfl, vd_mt (List.mem_of_getElem? (i := 28) (by decide +kernel)) rfl⟩
theorem wi_W_isAlike : Cond.instanceMethod y_W_isAlike ∈ vd_tbl := vd_mt (List.mem_of_getElem? (i := 193) (by decide +kernel)) rfl
theorem ws_W_isAlike : Cond.selects y_W_isAlike.cls y_W_isAlike y_W_isAlike ∈ vd_tbl := vd_mt (List.mem_of_getElem? (i := 194) (by decide +kernel)) rfl
def y_D_branch : MethodName := ⟨"VersionDepot", "branch", "(I)I"⟩
abbrev c_D_branch : ByteArray := prog_1_method_5_code
set_option maxRecDepth 100000 in
theorem mo_D_branch : (y_D_branch.cls ≠ "java/lang/invoke/MethodHandle" ∧ y_D_branch.cls ≠ "java/lang/invoke/VarHandle" ∧ (parseMethodDescriptor y_D_branch.desc).map (fun d => d.parameters.length) = some 1 ∧ Cond.code y_D_branch c_D_branch 2 (some .int) ∈ vd_tbl ∧ Cond.initialized y_D_branch.cls ∈ vd_tbl) := ⟨by decide +kernel, by decide +kernel, by decide +kernel, vd_mt (List.mem_of_getElem? (i := 202) rfl) rfl, vd_mt (List.mem_of_getElem? (i := 25) (by decide +kernel)) rfl⟩
theorem wi_D_branch : Cond.instanceMethod y_D_branch ∈ vd_tbl := vd_mt (List.mem_of_getElem? (i := 200) (by decide +kernel)) rfl
theorem ws_D_branch : Cond.selects y_D_branch.cls y_D_branch y_D_branch ∈ vd_tbl := vd_mt (List.mem_of_getElem? (i := 201) (by decide +kernel)) rfl
def y_D_isBranch : MethodName := ⟨"VersionDepot", "isBranch", "(I)Z"⟩
abbrev c_D_isBranch : ByteArray := prog_1_method_22_code
set_option maxRecDepth 100000 in
theorem mo_D_isBranch : (y_D_isBranch.cls ≠ "java/lang/invoke/MethodHandle" ∧ y_D_isBranch.cls ≠ "java/lang/invoke/VarHandle" ∧ (parseMethodDescriptor y_D_isBranch.desc).map (fun d => d.parameters.length) = some 1 ∧ Cond.code y_D_isBranch c_D_isBranch 1 (some .boolean) ∈ vd_tbl ∧ Cond.initialized y_D_isBranch.cls ∈ vd_tbl) := ⟨by decide +kernel, by decide +kernel, by decide +kernel, vd_mt (List.mem_of_getElem? (i := 205) rfl) rfl, vd_mt (List.mem_of_getElem? (i := 25) (by decide +kernel)) rfl⟩
theorem wt_D_isBranch : Cond.static y_D_isBranch ∈ vd_tbl := vd_mt (List.mem_of_getElem? (i := 204) (by decide +kernel)) rfl
def y_D_turn : MethodName := ⟨"VersionDepot", "turn", "(I)I"⟩
abbrev c_D_turn : ByteArray := prog_1_method_6_code
set_option maxRecDepth 100000 in
theorem mo_D_turn : (y_D_turn.cls ≠ "java/lang/invoke/MethodHandle" ∧ y_D_turn.cls ≠ "java/lang/invoke/VarHandle" ∧ (parseMethodDescriptor y_D_turn.desc).map (fun d => d.parameters.length) = some 1 ∧ Cond.code y_D_turn c_D_turn 2 (some .int) ∈ vd_tbl ∧ Cond.initialized y_D_turn.cls ∈ vd_tbl) := ⟨by decide +kernel, by decide +kernel, by decide +kernel, vd_mt (List.mem_of_getElem? (i := 209) rfl) rfl, vd_mt (List.mem_of_getElem? (i := 25) (by decide +kernel)) rfl⟩
theorem wi_D_turn : Cond.instanceMethod y_D_turn ∈ vd_tbl := vd_mt (List.mem_of_getElem? (i := 207) (by decide +kernel)) rfl
theorem ws_D_turn : Cond.selects y_D_turn.cls y_D_turn y_D_turn ∈ vd_tbl := vd_mt (List.mem_of_getElem? (i := 208) (by decide +kernel)) rfl
def y_D_isThere : MethodName := ⟨"VersionDepot", "isThere", "(I)Z"⟩
abbrev c_D_isThere : ByteArray := prog_1_method_23_code
set_option maxRecDepth 100000 in
theorem mo_D_isThere : (y_D_isThere.cls ≠ "java/lang/invoke/MethodHandle" ∧ y_D_isThere.cls ≠ "java/lang/invoke/VarHandle" ∧ (parseMethodDescriptor y_D_isThere.desc).map (fun d => d.parameters.length) = some 1 ∧ Cond.code y_D_isThere c_D_isThere 2 (some .boolean) ∈ vd_tbl ∧ Cond.initialized y_D_isThere.cls ∈ vd_tbl) := ⟨by decide +kernel, by decide +kernel, by decide +kernel, vd_mt (List.mem_of_getElem? (i := 213) rfl) rfl, vd_mt (List.mem_of_getElem? (i := 25) (by decide +kernel)) rfl⟩
theorem wi_D_isThere : Cond.instanceMethod y_D_isThere ∈ vd_tbl := vd_mt (List.mem_of_getElem? (i := 212) (by decide +kernel)) rfl
theorem ws_D_isThere : Cond.selects y_D_isThere.cls y_D_isThere y_D_isThere ∈ vd_tbl := vd_mt (List.mem_of_getElem? (i := 2) (by decide +kernel)) rfl
def y_D_isTidy : MethodName := ⟨"VersionDepot", "isTidy", "()Z"⟩
abbrev c_D_isTidy : ByteArray := prog_1_method_25_code
set_option maxRecDepth 100000 in
theorem mo_D_isTidy : (y_D_isTidy.cls ≠ "java/lang/invoke/MethodHandle" ∧ y_D_isTidy.cls ≠ "java/lang/invoke/VarHandle" ∧ (parseMethodDescriptor y_D_isTidy.desc).map (fun d => d.parameters.length) = some 0 ∧ Cond.code y_D_isTidy c_D_isTidy 1 (some .boolean) ∈ vd_tbl ∧ Cond.initialized y_D_isTidy.cls ∈ vd_tbl) := ⟨by decide +kernel, by decide +kernel, by decide +kernel, vd_mt (List.mem_of_getElem? (i := 217) rfl) rfl, vd_mt (List.mem_of_getElem? (i := 25) (by decide +kernel)) rfl⟩
theorem wi_D_isTidy : Cond.instanceMethod y_D_isTidy ∈ vd_tbl := vd_mt (List.mem_of_getElem? (i := 216) (by decide +kernel)) rfl
theorem ws_D_isTidy : Cond.selects y_D_isTidy.cls y_D_isTidy y_D_isTidy ∈ vd_tbl := vd_mt (List.mem_of_getElem? (i := 3) (by decide +kernel)) rfl
def y_D_unstaged : MethodName := ⟨"VersionDepot", "unstaged", "()I"⟩
abbrev c_D_unstaged : ByteArray := prog_1_method_26_code
set_option maxRecDepth 100000 in
theorem mo_D_unstaged : (y_D_unstaged.cls ≠ "java/lang/invoke/MethodHandle" ∧ y_D_unstaged.cls ≠ "java/lang/invoke/VarHandle" ∧ (parseMethodDescriptor y_D_unstaged.desc).map (fun d => d.parameters.length) = some 0 ∧ Cond.code y_D_unstaged c_D_unstaged 3 (some .int) ∈ vd_tbl ∧ Cond.initialized y_D_unstaged.cls ∈ vd_tbl) := ⟨by decide +kernel, by decide +kernel, by decide +kernel, vd_mt (List.mem_of_getElem? (i := 221) rfl) rfl, vd_mt (List.mem_of_getElem? (i := 25) (by decide +kernel)) rfl⟩
theorem wi_D_unstaged : Cond.instanceMethod y_D_unstaged ∈ vd_tbl := vd_mt (List.mem_of_getElem? (i := 220) (by decide +kernel)) rfl
theorem ws_D_unstaged : Cond.selects y_D_unstaged.cls y_D_unstaged y_D_unstaged ∈ vd_tbl := vd_mt (List.mem_of_getElem? (i := 4) (by decide +kernel)) rfl
def y_D_moveTo : MethodName := ⟨"VersionDepot", "moveTo", "(I)I"⟩
abbrev c_D_moveTo : ByteArray := prog_1_method_28_code
set_option maxRecDepth 100000 in
theorem mo_D_moveTo : (y_D_moveTo.cls ≠ "java/lang/invoke/MethodHandle" ∧ y_D_moveTo.cls ≠ "java/lang/invoke/VarHandle" ∧ (parseMethodDescriptor y_D_moveTo.desc).map (fun d => d.parameters.length) = some 1 ∧ Cond.code y_D_moveTo c_D_moveTo 3 (some .int) ∈ vd_tbl ∧ Cond.initialized y_D_moveTo.cls ∈ vd_tbl) := ⟨by decide +kernel, by decide +kernel, by decide +kernel, vd_mt (List.mem_of_getElem? (i := 225) rfl) rfl, vd_mt (List.mem_of_getElem? (i := 25) (by decide +kernel)) rfl⟩
theorem wi_D_moveTo : Cond.instanceMethod y_D_moveTo ∈ vd_tbl := vd_mt (List.mem_of_getElem? (i := 224) (by decide +kernel)) rfl
theorem ws_D_moveTo : Cond.selects y_D_moveTo.cls y_D_moveTo y_D_moveTo ∈ vd_tbl := vd_mt (List.mem_of_getElem? (i := 5) (by decide +kernel)) rfl
def y_D_merge : MethodName := ⟨"VersionDepot", "merge", "(I)I"⟩
abbrev c_D_merge : ByteArray := prog_1_method_7_code
set_option maxRecDepth 100000 in
theorem mo_D_merge : (y_D_merge.cls ≠ "java/lang/invoke/MethodHandle" ∧ y_D_merge.cls ≠ "java/lang/invoke/VarHandle" ∧ (parseMethodDescriptor y_D_merge.desc).map (fun d => d.parameters.length) = some 1 ∧ Cond.code y_D_merge c_D_merge 3 (some .int) ∈ vd_tbl ∧ Cond.initialized y_D_merge.cls ∈ vd_tbl) := ⟨by decide +kernel, by decide +kernel, by decide +kernel, vd_mt (List.mem_of_getElem? (i := 229) rfl) rfl, vd_mt (List.mem_of_getElem? (i := 25) (by decide +kernel)) rfl⟩
theorem wi_D_merge : Cond.instanceMethod y_D_merge ∈ vd_tbl := vd_mt (List.mem_of_getElem? (i := 227) (by decide +kernel)) rfl
theorem ws_D_merge : Cond.selects y_D_merge.cls y_D_merge y_D_merge ∈ vd_tbl := vd_mt (List.mem_of_getElem? (i := 228) (by decide +kernel)) rfl
def y_S_leadsTo : MethodName := ⟨"VersionDepot$Store", "leadsTo", "(II)Z"⟩
abbrev c_S_leadsTo : ByteArray := prog_4_method_9_code
set_option maxRecDepth 100000 in
theorem mo_S_leadsTo : (y_S_leadsTo.cls ≠ "java/lang/invoke/MethodHandle" ∧ y_S_leadsTo.cls ≠ "java/lang/invoke/VarHandle" ∧ (parseMethodDescriptor y_S_leadsTo.desc).map (fun d => d.parameters.length) = some 2 ∧ Cond.code y_S_leadsTo c_S_leadsTo 3 (some .boolean) ∈ vd_tbl ∧ Cond.initialized y_S_leadsTo.cls ∈ vd_tbl) := ⟨by decide +kernel, by decide +kernel, by decide +kernel, vd_mt (List.mem_of_getElem? (i := 233) rfl) rfl, vd_mt (List.mem_of_getElem? (i := 26) (by decide +kernel)) rfl⟩
theorem wi_S_leadsTo : Cond.instanceMethod y_S_leadsTo ∈ vd_tbl := vd_mt (List.mem_of_getElem? (i := 231) (by decide +kernel)) rfl
theorem ws_S_leadsTo : Cond.selects y_S_leadsTo.cls y_S_leadsTo y_S_leadsTo ∈ vd_tbl := vd_mt (List.mem_of_getElem? (i := 232) (by decide +kernel)) rfl
def y_D_mergeApart : MethodName := ⟨"VersionDepot", "mergeApart", "(I)I"⟩
abbrev c_D_mergeApart : ByteArray := prog_1_method_29_code
set_option maxRecDepth 100000 in
theorem mo_D_mergeApart : (y_D_mergeApart.cls ≠ "java/lang/invoke/MethodHandle" ∧ y_D_mergeApart.cls ≠ "java/lang/invoke/VarHandle" ∧ (parseMethodDescriptor y_D_mergeApart.desc).map (fun d => d.parameters.length) = some 1 ∧ Cond.code y_D_mergeApart c_D_mergeApart 3 (some .int) ∈ vd_tbl ∧ Cond.initialized y_D_mergeApart.cls ∈ vd_tbl) := ⟨by decide +kernel, by decide +kernel, by decide +kernel, vd_mt (List.mem_of_getElem? (i := 237) rfl) rfl, vd_mt (List.mem_of_getElem? (i := 25) (by decide +kernel)) rfl⟩
theorem wi_D_mergeApart : Cond.instanceMethod y_D_mergeApart ∈ vd_tbl := vd_mt (List.mem_of_getElem? (i := 236) (by decide +kernel)) rfl
theorem ws_D_mergeApart : Cond.selects y_D_mergeApart.cls y_D_mergeApart y_D_mergeApart ∈ vd_tbl := vd_mt (List.mem_of_getElem? (i := 6) (by decide +kernel)) rfl
def y_S_meetingOf : MethodName := ⟨"VersionDepot$Store", "meetingOf", "(II)I"⟩
abbrev c_S_meetingOf : ByteArray := prog_4_method_10_code
set_option maxRecDepth 100000 in
theorem mo_S_meetingOf : (y_S_meetingOf.cls ≠ "java/lang/invoke/MethodHandle" ∧ y_S_meetingOf.cls ≠ "java/lang/invoke/VarHandle" ∧ (parseMethodDescriptor y_S_meetingOf.desc).map (fun d => d.parameters.length) = some 2 ∧ Cond.code y_S_meetingOf c_S_meetingOf 5 (some .int) ∈ vd_tbl ∧ Cond.initialized y_S_meetingOf.cls ∈ vd_tbl) := ⟨by decide +kernel, by decide +kernel, by decide +kernel, vd_mt (List.mem_of_getElem? (i := 241) rfl) rfl, vd_mt (List.mem_of_getElem? (i := 26) (by decide +kernel)) rfl⟩
theorem wi_S_meetingOf : Cond.instanceMethod y_S_meetingOf ∈ vd_tbl := vd_mt (List.mem_of_getElem? (i := 239) (by decide +kernel)) rfl
theorem ws_S_meetingOf : Cond.selects y_S_meetingOf.cls y_S_meetingOf y_S_meetingOf ∈ vd_tbl := vd_mt (List.mem_of_getElem? (i := 240) (by decide +kernel)) rfl
def y_D_mixHereWith : MethodName := ⟨"VersionDepot", "mixHereWith", "(II)I"⟩
abbrev c_D_mixHereWith : ByteArray := prog_1_method_30_code
set_option maxRecDepth 100000 in
theorem mo_D_mixHereWith : (y_D_mixHereWith.cls ≠ "java/lang/invoke/MethodHandle" ∧ y_D_mixHereWith.cls ≠ "java/lang/invoke/VarHandle" ∧ (parseMethodDescriptor y_D_mixHereWith.desc).map (fun d => d.parameters.length) = some 2 ∧ Cond.code y_D_mixHereWith c_D_mixHereWith 8 (some .int) ∈ vd_tbl ∧ Cond.initialized y_D_mixHereWith.cls ∈ vd_tbl) := ⟨by decide +kernel, by decide +kernel, by decide +kernel, vd_mt (List.mem_of_getElem? (i := 245) rfl) rfl, vd_mt (List.mem_of_getElem? (i := 25) (by decide +kernel)) rfl⟩
theorem wi_D_mixHereWith : Cond.instanceMethod y_D_mixHereWith ∈ vd_tbl := vd_mt (List.mem_of_getElem? (i := 244) (by decide +kernel)) rfl
theorem ws_D_mixHereWith : Cond.selects y_D_mixHereWith.cls y_D_mixHereWith y_D_mixHereWith ∈ vd_tbl := vd_mt (List.mem_of_getElem? (i := 7) (by decide +kernel)) rfl
def y_D_abort : MethodName := ⟨"VersionDepot", "abort", "()I"⟩
abbrev c_D_abort : ByteArray := prog_1_method_8_code
set_option maxRecDepth 100000 in
theorem mo_D_abort : (y_D_abort.cls ≠ "java/lang/invoke/MethodHandle" ∧ y_D_abort.cls ≠ "java/lang/invoke/VarHandle" ∧ (parseMethodDescriptor y_D_abort.desc).map (fun d => d.parameters.length) = some 0 ∧ Cond.code y_D_abort c_D_abort 1 (some .int) ∈ vd_tbl ∧ Cond.initialized y_D_abort.cls ∈ vd_tbl) := ⟨by decide +kernel, by decide +kernel, by decide +kernel, vd_mt (List.mem_of_getElem? (i := 250) rfl) rfl, vd_mt (List.mem_of_getElem? (i := 25) (by decide +kernel)) rfl⟩
theorem wi_D_abort : Cond.instanceMethod y_D_abort ∈ vd_tbl := vd_mt (List.mem_of_getElem? (i := 248) (by decide +kernel)) rfl
theorem ws_D_abort : Cond.selects y_D_abort.cls y_D_abort y_D_abort ∈ vd_tbl := vd_mt (List.mem_of_getElem? (i := 249) (by decide +kernel)) rfl
def y_D_pick : MethodName := ⟨"VersionDepot", "pick", "(I)I"⟩
abbrev c_D_pick : ByteArray := prog_1_method_9_code
set_option maxRecDepth 100000 in
theorem mo_D_pick : (y_D_pick.cls ≠ "java/lang/invoke/MethodHandle" ∧ y_D_pick.cls ≠ "java/lang/invoke/VarHandle" ∧ (parseMethodDescriptor y_D_pick.desc).map (fun d => d.parameters.length) = some 1 ∧ Cond.code y_D_pick c_D_pick 2 (some .int) ∈ vd_tbl ∧ Cond.initialized y_D_pick.cls ∈ vd_tbl) := ⟨by decide +kernel, by decide +kernel, by decide +kernel, vd_mt (List.mem_of_getElem? (i := 254) rfl) rfl, vd_mt (List.mem_of_getElem? (i := 25) (by decide +kernel)) rfl⟩
theorem wi_D_pick : Cond.instanceMethod y_D_pick ∈ vd_tbl := vd_mt (List.mem_of_getElem? (i := 252) (by decide +kernel)) rfl
theorem ws_D_pick : Cond.selects y_D_pick.cls y_D_pick y_D_pick ∈ vd_tbl := vd_mt (List.mem_of_getElem? (i := 253) (by decide +kernel)) rfl
def y_S_holds : MethodName := ⟨"VersionDepot$Store", "holds", "(I)Z"⟩
abbrev c_S_holds : ByteArray := prog_4_method_3_code
set_option maxRecDepth 100000 in
theorem mo_S_holds : (y_S_holds.cls ≠ "java/lang/invoke/MethodHandle" ∧ y_S_holds.cls ≠ "java/lang/invoke/VarHandle" ∧ (parseMethodDescriptor y_S_holds.desc).map (fun d => d.parameters.length) = some 1 ∧ Cond.code y_S_holds c_S_holds 2 (some .boolean) ∈ vd_tbl ∧ Cond.initialized y_S_holds.cls ∈ vd_tbl) := ⟨by decide +kernel, by decide +kernel, by decide +kernel, vd_mt (List.mem_of_getElem? (i := 258) rfl) rfl, vd_mt (List.mem_of_getElem? (i := 26) (by decide +kernel)) rfl⟩
theorem wi_S_holds : Cond.instanceMethod y_S_holds ∈ vd_tbl := vd_mt (List.mem_of_getElem? (i := 256) (by decide +kernel)) rfl
theorem ws_S_holds : Cond.selects y_S_holds.cls y_S_holds y_S_holds ∈ vd_tbl := vd_mt (List.mem_of_getElem? (i := 257) (by decide +kernel)) rfl
def y_S_parentOf : MethodName := ⟨"VersionDepot$Store", "parentOf", "(II)I"⟩
abbrev c_S_parentOf : ByteArray := prog_4_method_7_code
set_option maxRecDepth 100000 in
theorem mo_S_parentOf : (y_S_parentOf.cls ≠ "java/lang/invoke/MethodHandle" ∧ y_S_parentOf.cls ≠ "java/lang/invoke/VarHandle" ∧ (parseMethodDescriptor y_S_parentOf.desc).map (fun d => d.parameters.length) = some 2 ∧ Cond.code y_S_parentOf c_S_parentOf 3 (some .int) ∈ vd_tbl ∧ Cond.initialized y_S_parentOf.cls ∈ vd_tbl) := ⟨by decide +kernel, by decide +kernel, by decide +kernel, vd_mt (List.mem_of_getElem? (i := 262) rfl) rfl, vd_mt (List.mem_of_getElem? (i := 26) (by decide +kernel)) rfl⟩
theorem wi_S_parentOf : Cond.instanceMethod y_S_parentOf ∈ vd_tbl := vd_mt (List.mem_of_getElem? (i := 260) (by decide +kernel)) rfl
theorem ws_S_parentOf : Cond.selects y_S_parentOf.cls y_S_parentOf y_S_parentOf ∈ vd_tbl := vd_mt (List.mem_of_getElem? (i := 261) (by decide +kernel)) rfl
def y_D_reset : MethodName := ⟨"VersionDepot", "reset", "(I)I"⟩
abbrev c_D_reset : ByteArray := prog_1_method_10_code
set_option maxRecDepth 100000 in
theorem mo_D_reset : (y_D_reset.cls ≠ "java/lang/invoke/MethodHandle" ∧ y_D_reset.cls ≠ "java/lang/invoke/VarHandle" ∧ (parseMethodDescriptor y_D_reset.desc).map (fun d => d.parameters.length) = some 1 ∧ Cond.code y_D_reset c_D_reset 2 (some .int) ∈ vd_tbl ∧ Cond.initialized y_D_reset.cls ∈ vd_tbl) := ⟨by decide +kernel, by decide +kernel, by decide +kernel, vd_mt (List.mem_of_getElem? (i := 266) rfl) rfl, vd_mt (List.mem_of_getElem? (i := 25) (by decide +kernel)) rfl⟩
theorem wi_D_reset : Cond.instanceMethod y_D_reset ∈ vd_tbl := vd_mt (List.mem_of_getElem? (i := 264) (by decide +kernel)) rfl
theorem ws_D_reset : Cond.selects y_D_reset.cls y_D_reset y_D_reset ∈ vd_tbl := vd_mt (List.mem_of_getElem? (i := 265) (by decide +kernel)) rfl
def y_D_remove : MethodName := ⟨"VersionDepot", "remove", "(I)I"⟩
abbrev c_D_remove : ByteArray := prog_1_method_11_code
set_option maxRecDepth 100000 in
theorem mo_D_remove : (y_D_remove.cls ≠ "java/lang/invoke/MethodHandle" ∧ y_D_remove.cls ≠ "java/lang/invoke/VarHandle" ∧ (parseMethodDescriptor y_D_remove.desc).map (fun d => d.parameters.length) = some 1 ∧ Cond.code y_D_remove c_D_remove 2 (some .int) ∈ vd_tbl ∧ Cond.initialized y_D_remove.cls ∈ vd_tbl) := ⟨by decide +kernel, by decide +kernel, by decide +kernel, vd_mt (List.mem_of_getElem? (i := 270) rfl) rfl, vd_mt (List.mem_of_getElem? (i := 25) (by decide +kernel)) rfl⟩
theorem wi_D_remove : Cond.instanceMethod y_D_remove ∈ vd_tbl := vd_mt (List.mem_of_getElem? (i := 268) (by decide +kernel)) rfl
theorem ws_D_remove : Cond.selects y_D_remove.cls y_D_remove y_D_remove ∈ vd_tbl := vd_mt (List.mem_of_getElem? (i := 269) (by decide +kernel)) rfl
def y_D_sweep : MethodName := ⟨"VersionDepot", "sweep", "()I"⟩
abbrev c_D_sweep : ByteArray := prog_1_method_12_code
set_option maxRecDepth 100000 in
theorem mo_D_sweep : (y_D_sweep.cls ≠ "java/lang/invoke/MethodHandle" ∧ y_D_sweep.cls ≠ "java/lang/invoke/VarHandle" ∧ (parseMethodDescriptor y_D_sweep.desc).map (fun d => d.parameters.length) = some 0 ∧ Cond.code y_D_sweep c_D_sweep 4 (some .int) ∈ vd_tbl ∧ Cond.initialized y_D_sweep.cls ∈ vd_tbl) := ⟨by decide +kernel, by decide +kernel, by decide +kernel, vd_mt (List.mem_of_getElem? (i := 274) rfl) rfl, vd_mt (List.mem_of_getElem? (i := 25) (by decide +kernel)) rfl⟩
theorem wi_D_sweep : Cond.instanceMethod y_D_sweep ∈ vd_tbl := vd_mt (List.mem_of_getElem? (i := 272) (by decide +kernel)) rfl
theorem ws_D_sweep : Cond.selects y_D_sweep.cls y_D_sweep y_D_sweep ∈ vd_tbl := vd_mt (List.mem_of_getElem? (i := 273) (by decide +kernel)) rfl
def y_S_size : MethodName := ⟨"VersionDepot$Store", "size", "()I"⟩
abbrev c_S_size : ByteArray := prog_4_method_5_code
set_option maxRecDepth 100000 in
theorem mo_S_size : (y_S_size.cls ≠ "java/lang/invoke/MethodHandle" ∧ y_S_size.cls ≠ "java/lang/invoke/VarHandle" ∧ (parseMethodDescriptor y_S_size.desc).map (fun d => d.parameters.length) = some 0 ∧ Cond.code y_S_size c_S_size 1 (some .int) ∈ vd_tbl ∧ Cond.initialized y_S_size.cls ∈ vd_tbl) := ⟨by decide +kernel, by decide +kernel, by decide +kernel, vd_mt (List.mem_of_getElem? (i := 278) rfl) rfl, vd_mt (List.mem_of_getElem? (i := 26) (by decide +kernel)) rfl⟩
theorem wi_S_size : Cond.instanceMethod y_S_size ∈ vd_tbl := vd_mt (List.mem_of_getElem? (i := 276) (by decide +kernel)) rfl
theorem ws_S_size : Cond.selects y_S_size.cls y_S_size y_S_size ∈ vd_tbl := vd_mt (List.mem_of_getElem? (i := 277) (by decide +kernel)) rfl
def y_B_size : MethodName := ⟨"VersionDepot$Blobs", "size", "()I"⟩
abbrev c_B_size : ByteArray := prog_2_method_4_code
set_option maxRecDepth 100000 in
theorem mo_B_size : (y_B_size.cls ≠ "java/lang/invoke/MethodHandle" ∧ y_B_size.cls ≠ "java/lang/invoke/VarHandle" ∧ (parseMethodDescriptor y_B_size.desc).map (fun d => d.parameters.length) = some 0 ∧ Cond.code y_B_size c_B_size 3 (some .int) ∈ vd_tbl ∧ Cond.initialized y_B_size.cls ∈ vd_tbl) := ⟨by decide +kernel, by decide +kernel, by decide +kernel, vd_mt (List.mem_of_getElem? (i := 282) rfl) rfl, vd_mt (List.mem_of_getElem? (i := 27) (by decide +kernel)) rfl⟩
theorem wi_B_size : Cond.instanceMethod y_B_size ∈ vd_tbl := vd_mt (List.mem_of_getElem? (i := 280) (by decide +kernel)) rfl
theorem ws_B_size : Cond.selects y_B_size.cls y_B_size y_B_size ∈ vd_tbl := vd_mt (List.mem_of_getElem? (i := 281) (by decide +kernel)) rfl
def y_J_bitCount : MethodName := ⟨"java/lang/Long", "bitCount", "(J)I"⟩
abbrev c_J_bitCount : ByteArray := prog_8_method_50_code
set_option maxRecDepth 100000 in
theorem mo_J_bitCount : (y_J_bitCount.cls ≠ "java/lang/invoke/MethodHandle" ∧ y_J_bitCount.cls ≠ "java/lang/invoke/VarHandle" ∧ (parseMethodDescriptor y_J_bitCount.desc).map (fun d => d.parameters.length) = some 1 ∧ Cond.code y_J_bitCount c_J_bitCount 2 (some .int) ∈ vd_tbl ∧ Cond.initialized y_J_bitCount.cls ∈ vd_tbl) := ⟨by decide +kernel, by decide +kernel, by decide +kernel, vd_mt (List.mem_of_getElem? (i := 285) rfl) rfl, vd_mt (List.mem_of_getElem? (i := 31) (by decide +kernel)) rfl⟩
theorem wt_J_bitCount : Cond.static y_J_bitCount ∈ vd_tbl := vd_mt (List.mem_of_getElem? (i := 284) (by decide +kernel)) rfl
def y_W_size : MethodName := ⟨"VersionDepot$Rows", "size", "()I"⟩
abbrev c_W_size : ByteArray := prog_3_method_7_code
set_option maxRecDepth 100000 in
theorem mo_W_size : (y_W_size.cls ≠ "java/lang/invoke/MethodHandle" ∧ y_W_size.cls ≠ "java/lang/invoke/VarHandle" ∧ (parseMethodDescriptor y_W_size.desc).map (fun d => d.parameters.length) = some 0 ∧ Cond.code y_W_size c_W_size 3 (some .int) ∈ vd_tbl ∧ Cond.initialized y_W_size.cls ∈ vd_tbl) := ⟨by decide +kernel, by decide +kernel, by decide +kernel, vd_mt (List.mem_of_getElem? (i := 292) rfl) rfl, vd_mt (List.mem_of_getElem? (i := 28) (by decide +kernel)) rfl⟩
theorem wi_W_size : Cond.instanceMethod y_W_size ∈ vd_tbl := vd_mt (List.mem_of_getElem? (i := 290) (by decide +kernel)) rfl
theorem ws_W_size : Cond.selects y_W_size.cls y_W_size y_W_size ∈ vd_tbl := vd_mt (List.mem_of_getElem? (i := 291) (by decide +kernel)) rfl
def y_S_commits : MethodName := ⟨"VersionDepot$Store", "commits", "()I"⟩
abbrev c_S_commits : ByteArray := prog_4_method_4_code
set_option maxRecDepth 100000 in
theorem mo_S_commits : (y_S_commits.cls ≠ "java/lang/invoke/MethodHandle" ∧ y_S_commits.cls ≠ "java/lang/invoke/VarHandle" ∧ (parseMethodDescriptor y_S_commits.desc).map (fun d => d.parameters.length) = some 0 ∧ Cond.code y_S_commits c_S_commits 1 (some .int) ∈ vd_tbl ∧ Cond.initialized y_S_commits.cls ∈ vd_tbl) := ⟨by decide +kernel, by decide +kernel, by decide +kernel, vd_mt (List.mem_of_getElem? (i := 296) rfl) rfl, vd_mt (List.mem_of_getElem? (i := 26) (by decide +kernel)) rfl⟩
theorem wi_S_commits : Cond.instanceMethod y_S_commits ∈ vd_tbl := vd_mt (List.mem_of_getElem? (i := 294) (by decide +kernel)) rfl
theorem ws_S_commits : Cond.selects y_S_commits.cls y_S_commits y_S_commits ∈ vd_tbl := vd_mt (List.mem_of_getElem? (i := 295) (by decide +kernel)) rfl
def y_I_bitCount : MethodName := ⟨"java/lang/Integer", "bitCount", "(I)I"⟩
abbrev c_I_bitCount : ByteArray := prog_7_method_49_code
set_option maxRecDepth 100000 in
theorem mo_I_bitCount : (y_I_bitCount.cls ≠ "java/lang/invoke/MethodHandle" ∧ y_I_bitCount.cls ≠ "java/lang/invoke/VarHandle" ∧ (parseMethodDescriptor y_I_bitCount.desc).map (fun d => d.parameters.length) = some 1 ∧ Cond.code y_I_bitCount c_I_bitCount 1 (some .int) ∈ vd_tbl ∧ Cond.initialized y_I_bitCount.cls ∈ vd_tbl) := ⟨by decide +kernel, by decide +kernel, by decide +kernel, vd_mt (List.mem_of_getElem? (i := 299) rfl) rfl, vd_mt (List.mem_of_getElem? (i := 32) (by decide +kernel)) rfl⟩
theorem wt_I_bitCount : Cond.static y_I_bitCount ∈ vd_tbl := vd_mt (List.mem_of_getElem? (i := 298) (by decide +kernel)) rfl
def y_S_ancestorsOf : MethodName := ⟨"VersionDepot$Store", "ancestorsOf", "(I)I"⟩
abbrev c_S_ancestorsOf : ByteArray := prog_4_method_8_code
set_option maxRecDepth 100000 in
theorem mo_S_ancestorsOf : (y_S_ancestorsOf.cls ≠ "java/lang/invoke/MethodHandle" ∧ y_S_ancestorsOf.cls ≠ "java/lang/invoke/VarHandle" ∧ (parseMethodDescriptor y_S_ancestorsOf.desc).map (fun d => d.parameters.length) = some 1 ∧ Cond.code y_S_ancestorsOf c_S_ancestorsOf 2 (some .int) ∈ vd_tbl ∧ Cond.initialized y_S_ancestorsOf.cls ∈ vd_tbl) := ⟨by decide +kernel, by decide +kernel, by decide +kernel, vd_mt (List.mem_of_getElem? (i := 306) rfl) rfl, vd_mt (List.mem_of_getElem? (i := 26) (by decide +kernel)) rfl⟩
theorem wi_S_ancestorsOf : Cond.instanceMethod y_S_ancestorsOf ∈ vd_tbl := vd_mt (List.mem_of_getElem? (i := 304) (by decide +kernel)) rfl
theorem ws_S_ancestorsOf : Cond.selects y_S_ancestorsOf.cls y_S_ancestorsOf y_S_ancestorsOf ∈ vd_tbl := vd_mt (List.mem_of_getElem? (i := 305) (by decide +kernel)) rfl
def y_S_keepOnly : MethodName := ⟨"VersionDepot$Store", "keepOnly", "(I)V"⟩
abbrev c_S_keepOnly : ByteArray := prog_4_method_14_code
set_option maxRecDepth 100000 in
theorem mo_S_keepOnly : (y_S_keepOnly.cls ≠ "java/lang/invoke/MethodHandle" ∧ y_S_keepOnly.cls ≠ "java/lang/invoke/VarHandle" ∧ (parseMethodDescriptor y_S_keepOnly.desc).map (fun d => d.parameters.length) = some 1 ∧ Cond.code y_S_keepOnly c_S_keepOnly 3 (none) ∈ vd_tbl ∧ Cond.initialized y_S_keepOnly.cls ∈ vd_tbl) := ⟨by decide +kernel, by decide +kernel, by decide +kernel, vd_mt (List.mem_of_getElem? (i := 310) rfl) rfl, vd_mt (List.mem_of_getElem? (i := 26) (by decide +kernel)) rfl⟩
theorem wi_S_keepOnly : Cond.instanceMethod y_S_keepOnly ∈ vd_tbl := vd_mt (List.mem_of_getElem? (i := 308) (by decide +kernel)) rfl
theorem ws_S_keepOnly : Cond.selects y_S_keepOnly.cls y_S_keepOnly y_S_keepOnly ∈ vd_tbl := vd_mt (List.mem_of_getElem? (i := 309) (by decide +kernel)) rfl
def y_B_clear : MethodName := ⟨"VersionDepot$Blobs", "clear", "()V"⟩
abbrev c_B_clear : ByteArray := prog_2_method_3_code
set_option maxRecDepth 100000 in
theorem mo_B_clear : (y_B_clear.cls ≠ "java/lang/invoke/MethodHandle" ∧ y_B_clear.cls ≠ "java/lang/invoke/VarHandle" ∧ (parseMethodDescriptor y_B_clear.desc).map (fun d => d.parameters.length) = some 0 ∧ Cond.code y_B_clear c_B_clear 2 (none) ∈ vd_tbl ∧ Cond.initialized y_B_clear.cls ∈ vd_tbl) := ⟨by decide +kernel, by decide +kernel, by decide +kernel, vd_mt (List.mem_of_getElem? (i := 314) rfl) rfl, vd_mt (List.mem_of_getElem? (i := 27) (by decide +kernel)) rfl⟩
theorem wi_B_clear : Cond.instanceMethod y_B_clear ∈ vd_tbl := vd_mt (List.mem_of_getElem? (i := 312) (by decide +kernel)) rfl
theorem ws_B_clear : Cond.selects y_B_clear.cls y_B_clear y_B_clear ∈ vd_tbl := vd_mt (List.mem_of_getElem? (i := 313) (by decide +kernel)) rfl
def y_W_clear : MethodName := ⟨"VersionDepot$Rows", "clear", "()V"⟩
abbrev c_W_clear : ByteArray := prog_3_method_6_code
set_option maxRecDepth 100000 in
theorem mo_W_clear : (y_W_clear.cls ≠ "java/lang/invoke/MethodHandle" ∧ y_W_clear.cls ≠ "java/lang/invoke/VarHandle" ∧ (parseMethodDescriptor y_W_clear.desc).map (fun d => d.parameters.length) = some 0 ∧ Cond.code y_W_clear c_W_clear 2 (none) ∈ vd_tbl ∧ Cond.initialized y_W_clear.cls ∈ vd_tbl) := ⟨by decide +kernel, by decide +kernel, by decide +kernel, vd_mt (List.mem_of_getElem? (i := 318) rfl) rfl, vd_mt (List.mem_of_getElem? (i := 28) (by decide +kernel)) rfl⟩
theorem wi_W_clear : Cond.instanceMethod y_W_clear ∈ vd_tbl := vd_mt (List.mem_of_getElem? (i := 316) (by decide +kernel)) rfl
theorem ws_W_clear : Cond.selects y_W_clear.cls y_W_clear y_W_clear ∈ vd_tbl := vd_mt (List.mem_of_getElem? (i := 317) (by decide +kernel)) rfl
def y_S_keepAgain : MethodName := ⟨"VersionDepot$Store", "keepAgain", "(I)V"⟩
abbrev c_S_keepAgain : ByteArray := prog_4_method_15_code
set_option maxRecDepth 100000 in
theorem mo_S_keepAgain : (y_S_keepAgain.cls ≠ "java/lang/invoke/MethodHandle" ∧ y_S_keepAgain.cls ≠ "java/lang/invoke/VarHandle" ∧ (parseMethodDescriptor y_S_keepAgain.desc).map (fun d => d.parameters.length) = some 1 ∧ Cond.code y_S_keepAgain c_S_keepAgain 5 (none) ∈ vd_tbl ∧ Cond.initialized y_S_keepAgain.cls ∈ vd_tbl) := ⟨by decide +kernel, by decide +kernel, by decide +kernel, vd_mt (List.mem_of_getElem? (i := 323) rfl) rfl, vd_mt (List.mem_of_getElem? (i := 26) (by decide +kernel)) rfl⟩
theorem wi_S_keepAgain : Cond.instanceMethod y_S_keepAgain ∈ vd_tbl := vd_mt (List.mem_of_getElem? (i := 321) (by decide +kernel)) rfl
theorem ws_S_keepAgain : Cond.selects y_S_keepAgain.cls y_S_keepAgain y_S_keepAgain ∈ vd_tbl := vd_mt (List.mem_of_getElem? (i := 322) (by decide +kernel)) rfl
def y_W_keepAgain : MethodName := ⟨"VersionDepot$Rows", "keepAgain", "(I)V"⟩
abbrev c_W_keepAgain : ByteArray := prog_3_method_5_code
set_option maxRecDepth 100000 in
theorem mo_W_keepAgain : (y_W_keepAgain.cls ≠ "java/lang/invoke/MethodHandle" ∧ y_W_keepAgain.cls ≠ "java/lang/invoke/VarHandle" ∧ (parseMethodDescriptor y_W_keepAgain.desc).map (fun d => d.parameters.length) = some 1 ∧ Cond.code y_W_keepAgain c_W_keepAgain 2 (none) ∈ vd_tbl ∧ Cond.initialized y_W_keepAgain.cls ∈ vd_tbl) := ⟨by decide +kernel, by decide +kernel, by decide +kernel, vd_mt (List.mem_of_getElem? (i := 327) rfl) rfl, vd_mt (List.mem_of_getElem? (i := 28) (by decide +kernel)) rfl⟩
theorem wi_W_keepAgain : Cond.instanceMethod y_W_keepAgain ∈ vd_tbl := vd_mt (List.mem_of_getElem? (i := 325) (by decide +kernel)) rfl
theorem ws_W_keepAgain : Cond.selects y_W_keepAgain.cls y_W_keepAgain y_W_keepAgain ∈ vd_tbl := vd_mt (List.mem_of_getElem? (i := 326) (by decide +kernel)) rfl
def y_D_content : MethodName := ⟨"VersionDepot", "content", "(II)I"⟩
abbrev c_D_content : ByteArray := prog_1_method_13_code
set_option maxRecDepth 100000 in
theorem mo_D_content : (y_D_content.cls ≠ "java/lang/invoke/MethodHandle" ∧ y_D_content.cls ≠ "java/lang/invoke/VarHandle" ∧ (parseMethodDescriptor y_D_content.desc).map (fun d => d.parameters.length) = some 2 ∧ Cond.code y_D_content c_D_content 3 (some .int) ∈ vd_tbl ∧ Cond.initialized y_D_content.cls ∈ vd_tbl) := ⟨by decide +kernel, by decide +kernel, by decide +kernel, vd_mt (List.mem_of_getElem? (i := 331) rfl) rfl, vd_mt (List.mem_of_getElem? (i := 25) (by decide +kernel)) rfl⟩
theorem wi_D_content : Cond.instanceMethod y_D_content ∈ vd_tbl := vd_mt (List.mem_of_getElem? (i := 329) (by decide +kernel)) rfl
theorem ws_D_content : Cond.selects y_D_content.cls y_D_content y_D_content ∈ vd_tbl := vd_mt (List.mem_of_getElem? (i := 330) (by decide +kernel)) rfl
def y_D_at : MethodName := ⟨"VersionDepot", "at", "(II)I"⟩
abbrev c_D_at : ByteArray := prog_1_method_14_code
set_option maxRecDepth 100000 in
theorem mo_D_at : (y_D_at.cls ≠ "java/lang/invoke/MethodHandle" ∧ y_D_at.cls ≠ "java/lang/invoke/VarHandle" ∧ (parseMethodDescriptor y_D_at.desc).map (fun d => d.parameters.length) = some 2 ∧ Cond.code y_D_at c_D_at 3 (some .int) ∈ vd_tbl ∧ Cond.initialized y_D_at.cls ∈ vd_tbl) := ⟨by decide +kernel, by decide +kernel, by decide +kernel, vd_mt (List.mem_of_getElem? (i := 335) rfl) rfl, vd_mt (List.mem_of_getElem? (i := 25) (by decide +kernel)) rfl⟩
theorem wi_D_at : Cond.instanceMethod y_D_at ∈ vd_tbl := vd_mt (List.mem_of_getElem? (i := 333) (by decide +kernel)) rfl
theorem ws_D_at : Cond.selects y_D_at.cls y_D_at y_D_at ∈ vd_tbl := vd_mt (List.mem_of_getElem? (i := 334) (by decide +kernel)) rfl
def y_D_parent : MethodName := ⟨"VersionDepot", "parent", "(II)I"⟩
abbrev c_D_parent : ByteArray := prog_1_method_15_code
set_option maxRecDepth 100000 in
theorem mo_D_parent : (y_D_parent.cls ≠ "java/lang/invoke/MethodHandle" ∧ y_D_parent.cls ≠ "java/lang/invoke/VarHandle" ∧ (parseMethodDescriptor y_D_parent.desc).map (fun d => d.parameters.length) = some 2 ∧ Cond.code y_D_parent c_D_parent 3 (some .int) ∈ vd_tbl ∧ Cond.initialized y_D_parent.cls ∈ vd_tbl) := ⟨by decide +kernel, by decide +kernel, by decide +kernel, vd_mt (List.mem_of_getElem? (i := 339) rfl) rfl, vd_mt (List.mem_of_getElem? (i := 25) (by decide +kernel)) rfl⟩
theorem wi_D_parent : Cond.instanceMethod y_D_parent ∈ vd_tbl := vd_mt (List.mem_of_getElem? (i := 337) (by decide +kernel)) rfl
theorem ws_D_parent : Cond.selects y_D_parent.cls y_D_parent y_D_parent ∈ vd_tbl := vd_mt (List.mem_of_getElem? (i := 338) (by decide +kernel)) rfl
def y_D_branchAt : MethodName := ⟨"VersionDepot", "branchAt", "(I)I"⟩
abbrev c_D_branchAt : ByteArray := prog_1_method_16_code
set_option maxRecDepth 100000 in
theorem mo_D_branchAt : (y_D_branchAt.cls ≠ "java/lang/invoke/MethodHandle" ∧ y_D_branchAt.cls ≠ "java/lang/invoke/VarHandle" ∧ (parseMethodDescriptor y_D_branchAt.desc).map (fun d => d.parameters.length) = some 1 ∧ Cond.code y_D_branchAt c_D_branchAt 2 (some .int) ∈ vd_tbl ∧ Cond.initialized y_D_branchAt.cls ∈ vd_tbl) := ⟨by decide +kernel, by decide +kernel, by decide +kernel, vd_mt (List.mem_of_getElem? (i := 343) rfl) rfl, vd_mt (List.mem_of_getElem? (i := 25) (by decide +kernel)) rfl⟩
theorem wi_D_branchAt : Cond.instanceMethod y_D_branchAt ∈ vd_tbl := vd_mt (List.mem_of_getElem? (i := 341) (by decide +kernel)) rfl
theorem ws_D_branchAt : Cond.selects y_D_branchAt.cls y_D_branchAt y_D_branchAt ∈ vd_tbl := vd_mt (List.mem_of_getElem? (i := 342) (by decide +kernel)) rfl
def y_D_common : MethodName := ⟨"VersionDepot", "common", "(II)I"⟩
abbrev c_D_common : ByteArray := prog_1_method_17_code
set_option maxRecDepth 100000 in
theorem mo_D_common : (y_D_common.cls ≠ "java/lang/invoke/MethodHandle" ∧ y_D_common.cls ≠ "java/lang/invoke/VarHandle" ∧ (parseMethodDescriptor y_D_common.desc).map (fun d => d.parameters.length) = some 2 ∧ Cond.code y_D_common c_D_common 3 (some .int) ∈ vd_tbl ∧ Cond.initialized y_D_common.cls ∈ vd_tbl) := ⟨by decide +kernel, by decide +kernel, by decide +kernel, vd_mt (List.mem_of_getElem? (i := 347) rfl) rfl, vd_mt (List.mem_of_getElem? (i := 25) (by decide +kernel)) rfl⟩
theorem wi_D_common : Cond.instanceMethod y_D_common ∈ vd_tbl := vd_mt (List.mem_of_getElem? (i := 345) (by decide +kernel)) rfl
theorem ws_D_common : Cond.selects y_D_common.cls y_D_common y_D_common ∈ vd_tbl := vd_mt (List.mem_of_getElem? (i := 346) (by decide +kernel)) rfl
def y_D_differ : MethodName := ⟨"VersionDepot", "differ", "(II)I"⟩
abbrev c_D_differ : ByteArray := prog_1_method_18_code
set_option maxRecDepth 100000 in
theorem mo_D_differ : (y_D_differ.cls ≠ "java/lang/invoke/MethodHandle" ∧ y_D_differ.cls ≠ "java/lang/invoke/VarHandle" ∧ (parseMethodDescriptor y_D_differ.desc).map (fun d => d.parameters.length) = some 2 ∧ Cond.code y_D_differ c_D_differ 5 (some .int) ∈ vd_tbl ∧ Cond.initialized y_D_differ.cls ∈ vd_tbl) := ⟨by decide +kernel, by decide +kernel, by decide +kernel, vd_mt (List.mem_of_getElem? (i := 351) rfl) rfl, vd_mt (List.mem_of_getElem? (i := 25) (by decide +kernel)) rfl⟩
theorem wi_D_differ : Cond.instanceMethod y_D_differ ∈ vd_tbl := vd_mt (List.mem_of_getElem? (i := 349) (by decide +kernel)) rfl
theorem ws_D_differ : Cond.selects y_D_differ.cls y_D_differ y_D_differ ∈ vd_tbl := vd_mt (List.mem_of_getElem? (i := 350) (by decide +kernel)) rfl
def y_D_clashing : MethodName := ⟨"VersionDepot", "clashing", "(I)Z"⟩
abbrev c_D_clashing : ByteArray := prog_1_method_19_code
set_option maxRecDepth 100000 in
theorem mo_D_clashing : (y_D_clashing.cls ≠ "java/lang/invoke/MethodHandle" ∧ y_D_clashing.cls ≠ "java/lang/invoke/VarHandle" ∧ (parseMethodDescriptor y_D_clashing.desc).map (fun d => d.parameters.length) = some 1 ∧ Cond.code y_D_clashing c_D_clashing 2 (some .boolean) ∈ vd_tbl ∧ Cond.initialized y_D_clashing.cls ∈ vd_tbl) := ⟨by decide +kernel, by decide +kernel, by decide +kernel, vd_mt (List.mem_of_getElem? (i := 355) rfl) rfl, vd_mt (List.mem_of_getElem? (i := 25) (by decide +kernel)) rfl⟩
theorem wi_D_clashing : Cond.instanceMethod y_D_clashing ∈ vd_tbl := vd_mt (List.mem_of_getElem? (i := 353) (by decide +kernel)) rfl
theorem ws_D_clashing : Cond.selects y_D_clashing.cls y_D_clashing y_D_clashing ∈ vd_tbl := vd_mt (List.mem_of_getElem? (i := 354) (by decide +kernel)) rfl
def y_D_count : MethodName := ⟨"VersionDepot", "count", "(I)I"⟩
abbrev c_D_count : ByteArray := prog_1_method_20_code
set_option maxRecDepth 100000 in
theorem mo_D_count : (y_D_count.cls ≠ "java/lang/invoke/MethodHandle" ∧ y_D_count.cls ≠ "java/lang/invoke/VarHandle" ∧ (parseMethodDescriptor y_D_count.desc).map (fun d => d.parameters.length) = some 1 ∧ Cond.code y_D_count c_D_count 2 (some .int) ∈ vd_tbl ∧ Cond.initialized y_D_count.cls ∈ vd_tbl) := ⟨by decide +kernel, by decide +kernel, by decide +kernel, vd_mt (List.mem_of_getElem? (i := 359) rfl) rfl, vd_mt (List.mem_of_getElem? (i := 25) (by decide +kernel)) rfl⟩
theorem wi_D_count : Cond.instanceMethod y_D_count ∈ vd_tbl := vd_mt (List.mem_of_getElem? (i := 357) (by decide +kernel)) rfl
theorem ws_D_count : Cond.selects y_D_count.cls y_D_count y_D_count ∈ vd_tbl := vd_mt (List.mem_of_getElem? (i := 358) (by decide +kernel)) rfl
def y_M_init : MethodName := ⟨"VersionDepotModel", "<init>", "()V"⟩
abbrev c_M_init : ByteArray := prog_6_method_1_code
set_option maxRecDepth 100000 in
theorem mo_M_init : (y_M_init.cls ≠ "java/lang/invoke/MethodHandle" ∧ y_M_init.cls ≠ "java/lang/invoke/VarHandle" ∧ (parseMethodDescriptor y_M_init.desc).map (fun d => d.parameters.length) = some 0 ∧ Cond.code y_M_init c_M_init 1 (none) ∈ vd_tbl ∧ Cond.initialized y_M_init.cls ∈ vd_tbl) := ⟨by decide +kernel, by decide +kernel, by decide +kernel, vd_mt (List.mem_of_getElem? (i := 368) rfl) rfl, vd_mt (List.mem_of_getElem? (i := 29) (by decide +kernel)) rfl⟩
theorem wi_M_init : Cond.instanceMethod y_M_init ∈ vd_tbl := vd_mt (List.mem_of_getElem? (i := 367) (by decide +kernel)) rfl
def y_M_write : MethodName := ⟨"VersionDepotModel", "write", "(II)I"⟩
abbrev c_M_write : ByteArray := prog_6_method_9_code
set_option maxRecDepth 100000 in
theorem mo_M_write : (y_M_write.cls ≠ "java/lang/invoke/MethodHandle" ∧ y_M_write.cls ≠ "java/lang/invoke/VarHandle" ∧ (parseMethodDescriptor y_M_write.desc).map (fun d => d.parameters.length) = some 2 ∧ Cond.code y_M_write c_M_write 3 (some .int) ∈ vd_tbl ∧ Cond.initialized y_M_write.cls ∈ vd_tbl) := ⟨by decide +kernel, by decide +kernel, by decide +kernel, vd_mt (List.mem_of_getElem? (i := 410) rfl) rfl, vd_mt (List.mem_of_getElem? (i := 29) (by decide +kernel)) rfl⟩
theorem wi_M_write : Cond.instanceMethod y_M_write ∈ vd_tbl := vd_mt (List.mem_of_getElem? (i := 408) (by decide +kernel)) rfl
theorem ws_M_write : Cond.selects y_M_write.cls y_M_write y_M_write ∈ vd_tbl := vd_mt (List.mem_of_getElem? (i := 409) (by decide +kernel)) rfl
def y_M_in : MethodName := ⟨"VersionDepotModel", "in", "(III)Z"⟩
abbrev c_M_in : ByteArray := prog_6_method_2_code
set_option maxRecDepth 100000 in
theorem mo_M_in : (y_M_in.cls ≠ "java/lang/invoke/MethodHandle" ∧ y_M_in.cls ≠ "java/lang/invoke/VarHandle" ∧ (parseMethodDescriptor y_M_in.desc).map (fun d => d.parameters.length) = some 3 ∧ Cond.code y_M_in c_M_in 3 (some .boolean) ∈ vd_tbl ∧ Cond.initialized y_M_in.cls ∈ vd_tbl) := ⟨by decide +kernel, by decide +kernel, by decide +kernel, vd_mt (List.mem_of_getElem? (i := 413) rfl) rfl, vd_mt (List.mem_of_getElem? (i := 29) (by decide +kernel)) rfl⟩
theorem wt_M_in : Cond.static y_M_in ∈ vd_tbl := vd_mt (List.mem_of_getElem? (i := 412) (by decide +kernel)) rfl
def y_M_stage : MethodName := ⟨"VersionDepotModel", "stage", "(I)I"⟩
abbrev c_M_stage : ByteArray := prog_6_method_10_code
set_option maxRecDepth 100000 in
theorem mo_M_stage : (y_M_stage.cls ≠ "java/lang/invoke/MethodHandle" ∧ y_M_stage.cls ≠ "java/lang/invoke/VarHandle" ∧ (parseMethodDescriptor y_M_stage.desc).map (fun d => d.parameters.length) = some 1 ∧ Cond.code y_M_stage c_M_stage 3 (some .int) ∈ vd_tbl ∧ Cond.initialized y_M_stage.cls ∈ vd_tbl) := ⟨by decide +kernel, by decide +kernel, by decide +kernel, vd_mt (List.mem_of_getElem? (i := 417) rfl) rfl, vd_mt (List.mem_of_getElem? (i := 29) (by decide +kernel)) rfl⟩
theorem wi_M_stage : Cond.instanceMethod y_M_stage ∈ vd_tbl := vd_mt (List.mem_of_getElem? (i := 415) (by decide +kernel)) rfl
theorem ws_M_stage : Cond.selects y_M_stage.cls y_M_stage y_M_stage ∈ vd_tbl := vd_mt (List.mem_of_getElem? (i := 416) (by decide +kernel)) rfl
def y_M_commit : MethodName := ⟨"VersionDepotModel", "commit", "()I"⟩
abbrev c_M_commit : ByteArray := prog_6_method_13_code
set_option maxRecDepth 100000 in
theorem mo_M_commit : (y_M_commit.cls ≠ "java/lang/invoke/MethodHandle" ∧ y_M_commit.cls ≠ "java/lang/invoke/VarHandle" ∧ (parseMethodDescriptor y_M_commit.desc).map (fun d => d.parameters.length) = some 0 ∧ Cond.code y_M_commit c_M_commit 3 (some .int) ∈ vd_tbl ∧ Cond.initialized y_M_commit.cls ∈ vd_tbl) := ⟨by decide +kernel, by decide +kernel, by decide +kernel, vd_mt (List.mem_of_getElem? (i := 421) rfl) rfl, vd_mt (List.mem_of_getElem? (i := 29) (by decide +kernel)) rfl⟩
theorem wi_M_commit : Cond.instanceMethod y_M_commit ∈ vd_tbl := vd_mt (List.mem_of_getElem? (i := 419) (by decide +kernel)) rfl
theorem ws_M_commit : Cond.selects y_M_commit.cls y_M_commit y_M_commit ∈ vd_tbl := vd_mt (List.mem_of_getElem? (i := 420) (by decide +kernel)) rfl
def y_M_clashes : MethodName := ⟨"VersionDepotModel", "clashes", "()I"⟩
abbrev c_M_clashes : ByteArray := prog_6_method_12_code
set_option maxRecDepth 100000 in
theorem mo_M_clashes : (y_M_clashes.cls ≠ "java/lang/invoke/MethodHandle" ∧ y_M_clashes.cls ≠ "java/lang/invoke/VarHandle" ∧ (parseMethodDescriptor y_M_clashes.desc).map (fun d => d.parameters.length) = some 0 ∧ Cond.code y_M_clashes c_M_clashes 3 (some .int) ∈ vd_tbl ∧ Cond.initialized y_M_clashes.cls ∈ vd_tbl) := ⟨by decide +kernel, by decide +kernel, by decide +kernel, vd_mt (List.mem_of_getElem? (i := 425) rfl) rfl, vd_mt (List.mem_of_getElem? (i := 29) (by decide +kernel)) rfl⟩
theorem wi_M_clashes : Cond.instanceMethod y_M_clashes ∈ vd_tbl := vd_mt (List.mem_of_getElem? (i := 424) (by decide +kernel)) rfl
theorem ws_M_clashes : Cond.selects y_M_clashes.cls y_M_clashes y_M_clashes ∈ vd_tbl := vd_mt (List.mem_of_getElem? (i := 8) (by decide +kernel)) rfl
def y_M_here : MethodName := ⟨"VersionDepotModel", "here", "()I"⟩
abbrev c_M_here : ByteArray := prog_6_method_3_code
set_option maxRecDepth 100000 in
theorem mo_M_here : (y_M_here.cls ≠ "java/lang/invoke/MethodHandle" ∧ y_M_here.cls ≠ "java/lang/invoke/VarHandle" ∧ (parseMethodDescriptor y_M_here.desc).map (fun d => d.parameters.length) = some 0 ∧ Cond.code y_M_here c_M_here 1 (some .int) ∈ vd_tbl ∧ Cond.initialized y_M_here.cls ∈ vd_tbl) := ⟨by decide +kernel, by decide +kernel, by decide +kernel, vd_mt (List.mem_of_getElem? (i := 429) rfl) rfl, vd_mt (List.mem_of_getElem? (i := 29) (by decide +kernel)) rfl⟩
theorem wi_M_here : Cond.instanceMethod y_M_here ∈ vd_tbl := vd_mt (List.mem_of_getElem? (i := 428) (by decide +kernel)) rfl
theorem ws_M_here : Cond.selects y_M_here.cls y_M_here y_M_here ∈ vd_tbl := vd_mt (List.mem_of_getElem? (i := 9) (by decide +kernel)) rfl
def y_M_same : MethodName := ⟨"VersionDepotModel", "same", "(II)Z"⟩
abbrev c_M_same : ByteArray := prog_6_method_5_code
set_option maxRecDepth 100000 in
theorem mo_M_same : (y_M_same.cls ≠ "java/lang/invoke/MethodHandle" ∧ y_M_same.cls ≠ "java/lang/invoke/VarHandle" ∧ (parseMethodDescriptor y_M_same.desc).map (fun d => d.parameters.length) = some 2 ∧ Cond.code y_M_same c_M_same 4 (some .boolean) ∈ vd_tbl ∧ Cond.initialized y_M_same.cls ∈ vd_tbl) := ⟨by decide +kernel, by decide +kernel, by decide +kernel, vd_mt (List.mem_of_getElem? (i := 433) rfl) rfl, vd_mt (List.mem_of_getElem? (i := 29) (by decide +kernel)) rfl⟩
theorem wi_M_same : Cond.instanceMethod y_M_same ∈ vd_tbl := vd_mt (List.mem_of_getElem? (i := 432) (by decide +kernel)) rfl
theorem ws_M_same : Cond.selects y_M_same.cls y_M_same y_M_same ∈ vd_tbl := vd_mt (List.mem_of_getElem? (i := 10) (by decide +kernel)) rfl
def y_M_make : MethodName := ⟨"VersionDepotModel", "make", "(III)I"⟩
abbrev c_M_make : ByteArray := prog_6_method_11_code
set_option maxRecDepth 100000 in
theorem mo_M_make : (y_M_make.cls ≠ "java/lang/invoke/MethodHandle" ∧ y_M_make.cls ≠ "java/lang/invoke/VarHandle" ∧ (parseMethodDescriptor y_M_make.desc).map (fun d => d.parameters.length) = some 3 ∧ Cond.code y_M_make c_M_make 5 (some .int) ∈ vd_tbl ∧ Cond.initialized y_M_make.cls ∈ vd_tbl) := ⟨by decide +kernel, by decide +kernel, by decide +kernel, vd_mt (List.mem_of_getElem? (i := 437) rfl) rfl, vd_mt (List.mem_of_getElem? (i := 29) (by decide +kernel)) rfl⟩
theorem wi_M_make : Cond.instanceMethod y_M_make ∈ vd_tbl := vd_mt (List.mem_of_getElem? (i := 436) (by decide +kernel)) rfl
theorem ws_M_make : Cond.selects y_M_make.cls y_M_make y_M_make ∈ vd_tbl := vd_mt (List.mem_of_getElem? (i := 11) (by decide +kernel)) rfl
def y_M_copy : MethodName := ⟨"VersionDepotModel", "copy", "(II)V"⟩
abbrev c_M_copy : ByteArray := prog_6_method_6_code
set_option maxRecDepth 100000 in
theorem mo_M_copy : (y_M_copy.cls ≠ "java/lang/invoke/MethodHandle" ∧ y_M_copy.cls ≠ "java/lang/invoke/VarHandle" ∧ (parseMethodDescriptor y_M_copy.desc).map (fun d => d.parameters.length) = some 2 ∧ Cond.code y_M_copy c_M_copy 4 (none) ∈ vd_tbl ∧ Cond.initialized y_M_copy.cls ∈ vd_tbl) := ⟨by decide +kernel, by decide +kernel, by decide +kernel, vd_mt (List.mem_of_getElem? (i := 441) rfl) rfl, vd_mt (List.mem_of_getElem? (i := 29) (by decide +kernel)) rfl⟩
theorem wi_M_copy : Cond.instanceMethod y_M_copy ∈ vd_tbl := vd_mt (List.mem_of_getElem? (i := 440) (by decide +kernel)) rfl
theorem ws_M_copy : Cond.selects y_M_copy.cls y_M_copy y_M_copy ∈ vd_tbl := vd_mt (List.mem_of_getElem? (i := 12) (by decide +kernel)) rfl
def y_M_branch : MethodName := ⟨"VersionDepotModel", "branch", "(I)I"⟩
abbrev c_M_branch : ByteArray := prog_6_method_14_code
set_option maxRecDepth 100000 in
theorem mo_M_branch : (y_M_branch.cls ≠ "java/lang/invoke/MethodHandle" ∧ y_M_branch.cls ≠ "java/lang/invoke/VarHandle" ∧ (parseMethodDescriptor y_M_branch.desc).map (fun d => d.parameters.length) = some 1 ∧ Cond.code y_M_branch c_M_branch 2 (some .int) ∈ vd_tbl ∧ Cond.initialized y_M_branch.cls ∈ vd_tbl) := ⟨by decide +kernel, by decide +kernel, by decide +kernel, vd_mt (List.mem_of_getElem? (i := 445) rfl) rfl, vd_mt (List.mem_of_getElem? (i := 29) (by decide +kernel)) rfl⟩
theorem wi_M_branch : Cond.instanceMethod y_M_branch ∈ vd_tbl := vd_mt (List.mem_of_getElem? (i := 443) (by decide +kernel)) rfl
theorem ws_M_branch : Cond.selects y_M_branch.cls y_M_branch y_M_branch ∈ vd_tbl := vd_mt (List.mem_of_getElem? (i := 444) (by decide +kernel)) rfl
def y_M_turn : MethodName := ⟨"VersionDepotModel", "turn", "(I)I"⟩
abbrev c_M_turn : ByteArray := prog_6_method_15_code
set_option maxRecDepth 100000 in
theorem mo_M_turn : (y_M_turn.cls ≠ "java/lang/invoke/MethodHandle" ∧ y_M_turn.cls ≠ "java/lang/invoke/VarHandle" ∧ (parseMethodDescriptor y_M_turn.desc).map (fun d => d.parameters.length) = some 1 ∧ Cond.code y_M_turn c_M_turn 2 (some .int) ∈ vd_tbl ∧ Cond.initialized y_M_turn.cls ∈ vd_tbl) := ⟨by decide +kernel, by decide +kernel, by decide +kernel, vd_mt (List.mem_of_getElem? (i := 449) rfl) rfl, vd_mt (List.mem_of_getElem? (i := 29) (by decide +kernel)) rfl⟩
theorem wi_M_turn : Cond.instanceMethod y_M_turn ∈ vd_tbl := vd_mt (List.mem_of_getElem? (i := 447) (by decide +kernel)) rfl
theorem ws_M_turn : Cond.selects y_M_turn.cls y_M_turn y_M_turn ∈ vd_tbl := vd_mt (List.mem_of_getElem? (i := 448) (by decide +kernel)) rfl
def y_M_tidy : MethodName := ⟨"VersionDepotModel", "tidy", "()Z"⟩
abbrev c_M_tidy : ByteArray := prog_6_method_8_code
set_option maxRecDepth 100000 in
theorem mo_M_tidy : (y_M_tidy.cls ≠ "java/lang/invoke/MethodHandle" ∧ y_M_tidy.cls ≠ "java/lang/invoke/VarHandle" ∧ (parseMethodDescriptor y_M_tidy.desc).map (fun d => d.parameters.length) = some 0 ∧ Cond.code y_M_tidy c_M_tidy 1 (some .boolean) ∈ vd_tbl ∧ Cond.initialized y_M_tidy.cls ∈ vd_tbl) := ⟨by decide +kernel, by decide +kernel, by decide +kernel, vd_mt (List.mem_of_getElem? (i := 453) rfl) rfl, vd_mt (List.mem_of_getElem? (i := 29) (by decide +kernel)) rfl⟩
theorem wi_M_tidy : Cond.instanceMethod y_M_tidy ∈ vd_tbl := vd_mt (List.mem_of_getElem? (i := 452) (by decide +kernel)) rfl
theorem ws_M_tidy : Cond.selects y_M_tidy.cls y_M_tidy y_M_tidy ∈ vd_tbl := vd_mt (List.mem_of_getElem? (i := 13) (by decide +kernel)) rfl
def y_M_show : MethodName := ⟨"VersionDepotModel", "show", "(I)V"⟩
abbrev c_M_show : ByteArray := prog_6_method_7_code
set_option maxRecDepth 100000 in
theorem mo_M_show : (y_M_show.cls ≠ "java/lang/invoke/MethodHandle" ∧ y_M_show.cls ≠ "java/lang/invoke/VarHandle" ∧ (parseMethodDescriptor y_M_show.desc).map (fun d => d.parameters.length) = some 1 ∧ Cond.code y_M_show c_M_show 2 (none) ∈ vd_tbl ∧ Cond.initialized y_M_show.cls ∈ vd_tbl) := ⟨by decide +kernel, by decide +kernel, by decide +kernel, vd_mt (List.mem_of_getElem? (i := 457) rfl) rfl, vd_mt (List.mem_of_getElem? (i := 29) (by decide +kernel)) rfl⟩
theorem wi_M_show : Cond.instanceMethod y_M_show ∈ vd_tbl := vd_mt (List.mem_of_getElem? (i := 456) (by decide +kernel)) rfl
theorem ws_M_show : Cond.selects y_M_show.cls y_M_show y_M_show ∈ vd_tbl := vd_mt (List.mem_of_getElem? (i := 14) (by decide +kernel)) rfl
def y_M_merge : MethodName := ⟨"VersionDepotModel", "merge", "(I)I"⟩
abbrev c_M_merge : ByteArray := prog_6_method_19_code
set_option maxRecDepth 100000 in
theorem mo_M_merge : (y_M_merge.cls ≠ "java/lang/invoke/MethodHandle" ∧ y_M_merge.cls ≠ "java/lang/invoke/VarHandle" ∧ (parseMethodDescriptor y_M_merge.desc).map (fun d => d.parameters.length) = some 1 ∧ Cond.code y_M_merge c_M_merge 5 (some .int) ∈ vd_tbl ∧ Cond.initialized y_M_merge.cls ∈ vd_tbl) := ⟨by decide +kernel, by decide +kernel, by decide +kernel, vd_mt (List.mem_of_getElem? (i := 461) rfl) rfl, vd_mt (List.mem_of_getElem? (i := 29) (by decide +kernel)) rfl⟩
theorem wi_M_merge : Cond.instanceMethod y_M_merge ∈ vd_tbl := vd_mt (List.mem_of_getElem? (i := 459) (by decide +kernel)) rfl
theorem ws_M_merge : Cond.selects y_M_merge.cls y_M_merge y_M_merge ∈ vd_tbl := vd_mt (List.mem_of_getElem? (i := 460) (by decide +kernel)) rfl
def y_M_shared : MethodName := ⟨"VersionDepotModel", "shared", "(II)I"⟩
abbrev c_M_shared : ByteArray := prog_6_method_17_code
set_option maxRecDepth 100000 in
theorem mo_M_shared : (y_M_shared.cls ≠ "java/lang/invoke/MethodHandle" ∧ y_M_shared.cls ≠ "java/lang/invoke/VarHandle" ∧ (parseMethodDescriptor y_M_shared.desc).map (fun d => d.parameters.length) = some 2 ∧ Cond.code y_M_shared c_M_shared 5 (some .int) ∈ vd_tbl ∧ Cond.initialized y_M_shared.cls ∈ vd_tbl) := ⟨by decide +kernel, by decide +kernel, by decide +kernel, vd_mt (List.mem_of_getElem? (i := 465) rfl) rfl, vd_mt (List.mem_of_getElem? (i := 29) (by decide +kernel)) rfl⟩
theorem wi_M_shared : Cond.instanceMethod y_M_shared ∈ vd_tbl := vd_mt (List.mem_of_getElem? (i := 464) (by decide +kernel)) rfl
theorem ws_M_shared : Cond.selects y_M_shared.cls y_M_shared y_M_shared ∈ vd_tbl := vd_mt (List.mem_of_getElem? (i := 15) (by decide +kernel)) rfl
def y_M_mark : MethodName := ⟨"VersionDepotModel", "mark", "(I)V"⟩
abbrev c_M_mark : ByteArray := prog_6_method_16_code
set_option maxRecDepth 100000 in
theorem mo_M_mark : (y_M_mark.cls ≠ "java/lang/invoke/MethodHandle" ∧ y_M_mark.cls ≠ "java/lang/invoke/VarHandle" ∧ (parseMethodDescriptor y_M_mark.desc).map (fun d => d.parameters.length) = some 1 ∧ Cond.code y_M_mark c_M_mark 3 (none) ∈ vd_tbl ∧ Cond.initialized y_M_mark.cls ∈ vd_tbl) := ⟨by decide +kernel, by decide +kernel, by decide +kernel, vd_mt (List.mem_of_getElem? (i := 469) rfl) rfl, vd_mt (List.mem_of_getElem? (i := 29) (by decide +kernel)) rfl⟩
theorem wi_M_mark : Cond.instanceMethod y_M_mark ∈ vd_tbl := vd_mt (List.mem_of_getElem? (i := 468) (by decide +kernel)) rfl
theorem ws_M_mark : Cond.selects y_M_mark.cls y_M_mark y_M_mark ∈ vd_tbl := vd_mt (List.mem_of_getElem? (i := 16) (by decide +kernel)) rfl
def y_M_mix : MethodName := ⟨"VersionDepotModel", "mix", "(IIIZ)I"⟩
abbrev c_M_mix : ByteArray := prog_6_method_18_code
set_option maxRecDepth 100000 in
theorem mo_M_mix : (y_M_mix.cls ≠ "java/lang/invoke/MethodHandle" ∧ y_M_mix.cls ≠ "java/lang/invoke/VarHandle" ∧ (parseMethodDescriptor y_M_mix.desc).map (fun d => d.parameters.length) = some 4 ∧ Cond.code y_M_mix c_M_mix 11 (some .int) ∈ vd_tbl ∧ Cond.initialized y_M_mix.cls ∈ vd_tbl) := ⟨by decide +kernel, by decide +kernel, by decide +kernel, vd_mt (List.mem_of_getElem? (i := 473) rfl) rfl, vd_mt (List.mem_of_getElem? (i := 29) (by decide +kernel)) rfl⟩
theorem wi_M_mix : Cond.instanceMethod y_M_mix ∈ vd_tbl := vd_mt (List.mem_of_getElem? (i := 472) (by decide +kernel)) rfl
theorem ws_M_mix : Cond.selects y_M_mix.cls y_M_mix y_M_mix ∈ vd_tbl := vd_mt (List.mem_of_getElem? (i := 17) (by decide +kernel)) rfl
def y_M_abort : MethodName := ⟨"VersionDepotModel", "abort", "()I"⟩
abbrev c_M_abort : ByteArray := prog_6_method_20_code
set_option maxRecDepth 100000 in
theorem mo_M_abort : (y_M_abort.cls ≠ "java/lang/invoke/MethodHandle" ∧ y_M_abort.cls ≠ "java/lang/invoke/VarHandle" ∧ (parseMethodDescriptor y_M_abort.desc).map (fun d => d.parameters.length) = some 0 ∧ Cond.code y_M_abort c_M_abort 2 (some .int) ∈ vd_tbl ∧ Cond.initialized y_M_abort.cls ∈ vd_tbl) := ⟨by decide +kernel, by decide +kernel, by decide +kernel, vd_mt (List.mem_of_getElem? (i := 477) rfl) rfl, vd_mt (List.mem_of_getElem? (i := 29) (by decide +kernel)) rfl⟩
theorem wi_M_abort : Cond.instanceMethod y_M_abort ∈ vd_tbl := vd_mt (List.mem_of_getElem? (i := 475) (by decide +kernel)) rfl
theorem ws_M_abort : Cond.selects y_M_abort.cls y_M_abort y_M_abort ∈ vd_tbl := vd_mt (List.mem_of_getElem? (i := 476) (by decide +kernel)) rfl
def y_M_pick : MethodName := ⟨"VersionDepotModel", "pick", "(I)I"⟩
abbrev c_M_pick : ByteArray := prog_6_method_21_code
set_option maxRecDepth 100000 in
theorem mo_M_pick : (y_M_pick.cls ≠ "java/lang/invoke/MethodHandle" ∧ y_M_pick.cls ≠ "java/lang/invoke/VarHandle" ∧ (parseMethodDescriptor y_M_pick.desc).map (fun d => d.parameters.length) = some 1 ∧ Cond.code y_M_pick c_M_pick 2 (some .int) ∈ vd_tbl ∧ Cond.initialized y_M_pick.cls ∈ vd_tbl) := ⟨by decide +kernel, by decide +kernel, by decide +kernel, vd_mt (List.mem_of_getElem? (i := 481) rfl) rfl, vd_mt (List.mem_of_getElem? (i := 29) (by decide +kernel)) rfl⟩
theorem wi_M_pick : Cond.instanceMethod y_M_pick ∈ vd_tbl := vd_mt (List.mem_of_getElem? (i := 479) (by decide +kernel)) rfl
theorem ws_M_pick : Cond.selects y_M_pick.cls y_M_pick y_M_pick ∈ vd_tbl := vd_mt (List.mem_of_getElem? (i := 480) (by decide +kernel)) rfl
def y_M_isStored : MethodName := ⟨"VersionDepotModel", "isStored", "(I)Z"⟩
abbrev c_M_isStored : ByteArray := prog_6_method_4_code
set_option maxRecDepth 100000 in
theorem mo_M_isStored : (y_M_isStored.cls ≠ "java/lang/invoke/MethodHandle" ∧ y_M_isStored.cls ≠ "java/lang/invoke/VarHandle" ∧ (parseMethodDescriptor y_M_isStored.desc).map (fun d => d.parameters.length) = some 1 ∧ Cond.code y_M_isStored c_M_isStored 2 (some .boolean) ∈ vd_tbl ∧ Cond.initialized y_M_isStored.cls ∈ vd_tbl) := ⟨by decide +kernel, by decide +kernel, by decide +kernel, vd_mt (List.mem_of_getElem? (i := 485) rfl) rfl, vd_mt (List.mem_of_getElem? (i := 29) (by decide +kernel)) rfl⟩
theorem wi_M_isStored : Cond.instanceMethod y_M_isStored ∈ vd_tbl := vd_mt (List.mem_of_getElem? (i := 484) (by decide +kernel)) rfl
theorem ws_M_isStored : Cond.selects y_M_isStored.cls y_M_isStored y_M_isStored ∈ vd_tbl := vd_mt (List.mem_of_getElem? (i := 18) (by decide +kernel)) rfl
def y_M_reset : MethodName := ⟨"VersionDepotModel", "reset", "(I)I"⟩
abbrev c_M_reset : ByteArray := prog_6_method_22_code
set_option maxRecDepth 100000 in
theorem mo_M_reset : (y_M_reset.cls ≠ "java/lang/invoke/MethodHandle" ∧ y_M_reset.cls ≠ "java/lang/invoke/VarHandle" ∧ (parseMethodDescriptor y_M_reset.desc).map (fun d => d.parameters.length) = some 1 ∧ Cond.code y_M_reset c_M_reset 2 (some .int) ∈ vd_tbl ∧ Cond.initialized y_M_reset.cls ∈ vd_tbl) := ⟨by decide +kernel, by decide +kernel, by decide +kernel, vd_mt (List.mem_of_getElem? (i := 489) rfl) rfl, vd_mt (List.mem_of_getElem? (i := 29) (by decide +kernel)) rfl⟩
theorem wi_M_reset : Cond.instanceMethod y_M_reset ∈ vd_tbl := vd_mt (List.mem_of_getElem? (i := 487) (by decide +kernel)) rfl
theorem ws_M_reset : Cond.selects y_M_reset.cls y_M_reset y_M_reset ∈ vd_tbl := vd_mt (List.mem_of_getElem? (i := 488) (by decide +kernel)) rfl
def y_M_remove : MethodName := ⟨"VersionDepotModel", "remove", "(I)I"⟩
abbrev c_M_remove : ByteArray := prog_6_method_23_code
set_option maxRecDepth 100000 in
theorem mo_M_remove : (y_M_remove.cls ≠ "java/lang/invoke/MethodHandle" ∧ y_M_remove.cls ≠ "java/lang/invoke/VarHandle" ∧ (parseMethodDescriptor y_M_remove.desc).map (fun d => d.parameters.length) = some 1 ∧ Cond.code y_M_remove c_M_remove 2 (some .int) ∈ vd_tbl ∧ Cond.initialized y_M_remove.cls ∈ vd_tbl) := ⟨by decide +kernel, by decide +kernel, by decide +kernel, vd_mt (List.mem_of_getElem? (i := 493) rfl) rfl, vd_mt (List.mem_of_getElem? (i := 29) (by decide +kernel)) rfl⟩
theorem wi_M_remove : Cond.instanceMethod y_M_remove ∈ vd_tbl := vd_mt (List.mem_of_getElem? (i := 491) (by decide +kernel)) rfl
theorem ws_M_remove : Cond.selects y_M_remove.cls y_M_remove y_M_remove ∈ vd_tbl := vd_mt (List.mem_of_getElem? (i := 492) (by decide +kernel)) rfl
def y_M_sweep : MethodName := ⟨"VersionDepotModel", "sweep", "()I"⟩
abbrev c_M_sweep : ByteArray := prog_6_method_25_code
set_option maxRecDepth 100000 in
theorem mo_M_sweep : (y_M_sweep.cls ≠ "java/lang/invoke/MethodHandle" ∧ y_M_sweep.cls ≠ "java/lang/invoke/VarHandle" ∧ (parseMethodDescriptor y_M_sweep.desc).map (fun d => d.parameters.length) = some 0 ∧ Cond.code y_M_sweep c_M_sweep 4 (some .int) ∈ vd_tbl ∧ Cond.initialized y_M_sweep.cls ∈ vd_tbl) := ⟨by decide +kernel, by decide +kernel, by decide +kernel, vd_mt (List.mem_of_getElem? (i := 497) rfl) rfl, vd_mt (List.mem_of_getElem? (i := 29) (by decide +kernel)) rfl⟩
theorem wi_M_sweep : Cond.instanceMethod y_M_sweep ∈ vd_tbl := vd_mt (List.mem_of_getElem? (i := 495) (by decide +kernel)) rfl
theorem ws_M_sweep : Cond.selects y_M_sweep.cls y_M_sweep y_M_sweep ∈ vd_tbl := vd_mt (List.mem_of_getElem? (i := 496) (by decide +kernel)) rfl
def y_M_objects : MethodName := ⟨"VersionDepotModel", "objects", "()I"⟩
abbrev c_M_objects : ByteArray := prog_6_method_24_code
set_option maxRecDepth 100000 in
theorem mo_M_objects : (y_M_objects.cls ≠ "java/lang/invoke/MethodHandle" ∧ y_M_objects.cls ≠ "java/lang/invoke/VarHandle" ∧ (parseMethodDescriptor y_M_objects.desc).map (fun d => d.parameters.length) = some 0 ∧ Cond.code y_M_objects c_M_objects 1 (some .int) ∈ vd_tbl ∧ Cond.initialized y_M_objects.cls ∈ vd_tbl) := ⟨by decide +kernel, by decide +kernel, by decide +kernel, vd_mt (List.mem_of_getElem? (i := 501) rfl) rfl, vd_mt (List.mem_of_getElem? (i := 29) (by decide +kernel)) rfl⟩
theorem wi_M_objects : Cond.instanceMethod y_M_objects ∈ vd_tbl := vd_mt (List.mem_of_getElem? (i := 500) (by decide +kernel)) rfl
theorem ws_M_objects : Cond.selects y_M_objects.cls y_M_objects y_M_objects ∈ vd_tbl := vd_mt (List.mem_of_getElem? (i := 19) (by decide +kernel)) rfl
def y_M_count : MethodName := ⟨"VersionDepotModel", "count", "(I)I"⟩
abbrev c_M_count : ByteArray := prog_6_method_37_code
set_option maxRecDepth 100000 in
theorem mo_M_count : (y_M_count.cls ≠ "java/lang/invoke/MethodHandle" ∧ y_M_count.cls ≠ "java/lang/invoke/VarHandle" ∧ (parseMethodDescriptor y_M_count.desc).map (fun d => d.parameters.length) = some 1 ∧ Cond.code y_M_count c_M_count 4 (some .int) ∈ vd_tbl ∧ Cond.initialized y_M_count.cls ∈ vd_tbl) := ⟨by decide +kernel, by decide +kernel, by decide +kernel, vd_mt (List.mem_of_getElem? (i := 505) rfl) rfl, vd_mt (List.mem_of_getElem? (i := 29) (by decide +kernel)) rfl⟩
theorem wi_M_count : Cond.instanceMethod y_M_count ∈ vd_tbl := vd_mt (List.mem_of_getElem? (i := 503) (by decide +kernel)) rfl
theorem ws_M_count : Cond.selects y_M_count.cls y_M_count y_M_count ∈ vd_tbl := vd_mt (List.mem_of_getElem? (i := 504) (by decide +kernel)) rfl
def y_M_folders : MethodName := ⟨"VersionDepotModel", "folders", "()I"⟩
abbrev c_M_folders : ByteArray := prog_6_method_34_code
set_option maxRecDepth 100000 in
theorem mo_M_folders : (y_M_folders.cls ≠ "java/lang/invoke/MethodHandle" ∧ y_M_folders.cls ≠ "java/lang/invoke/VarHandle" ∧ (parseMethodDescriptor y_M_folders.desc).map (fun d => d.parameters.length) = some 0 ∧ Cond.code y_M_folders c_M_folders 5 (some .int) ∈ vd_tbl ∧ Cond.initialized y_M_folders.cls ∈ vd_tbl) := ⟨by decide +kernel, by decide +kernel, by decide +kernel, vd_mt (List.mem_of_getElem? (i := 509) rfl) rfl, vd_mt (List.mem_of_getElem? (i := 29) (by decide +kernel)) rfl⟩
theorem wi_M_folders : Cond.instanceMethod y_M_folders ∈ vd_tbl := vd_mt (List.mem_of_getElem? (i := 508) (by decide +kernel)) rfl
theorem ws_M_folders : Cond.selects y_M_folders.cls y_M_folders y_M_folders ∈ vd_tbl := vd_mt (List.mem_of_getElem? (i := 20) (by decide +kernel)) rfl
def y_M_alike : MethodName := ⟨"VersionDepotModel", "alike", "(II)Z"⟩
abbrev c_M_alike : ByteArray := prog_6_method_33_code
set_option maxRecDepth 100000 in
theorem mo_M_alike : (y_M_alike.cls ≠ "java/lang/invoke/MethodHandle" ∧ y_M_alike.cls ≠ "java/lang/invoke/VarHandle" ∧ (parseMethodDescriptor y_M_alike.desc).map (fun d => d.parameters.length) = some 2 ∧ Cond.code y_M_alike c_M_alike 4 (some .boolean) ∈ vd_tbl ∧ Cond.initialized y_M_alike.cls ∈ vd_tbl) := ⟨by decide +kernel, by decide +kernel, by decide +kernel, vd_mt (List.mem_of_getElem? (i := 513) rfl) rfl, vd_mt (List.mem_of_getElem? (i := 29) (by decide +kernel)) rfl⟩
theorem wi_M_alike : Cond.instanceMethod y_M_alike ∈ vd_tbl := vd_mt (List.mem_of_getElem? (i := 512) (by decide +kernel)) rfl
theorem ws_M_alike : Cond.selects y_M_alike.cls y_M_alike y_M_alike ∈ vd_tbl := vd_mt (List.mem_of_getElem? (i := 21) (by decide +kernel)) rfl
def y_M_roots : MethodName := ⟨"VersionDepotModel", "roots", "()I"⟩
abbrev c_M_roots : ByteArray := prog_6_method_35_code
set_option maxRecDepth 100000 in
theorem mo_M_roots : (y_M_roots.cls ≠ "java/lang/invoke/MethodHandle" ∧ y_M_roots.cls ≠ "java/lang/invoke/VarHandle" ∧ (parseMethodDescriptor y_M_roots.desc).map (fun d => d.parameters.length) = some 0 ∧ Cond.code y_M_roots c_M_roots 5 (some .int) ∈ vd_tbl ∧ Cond.initialized y_M_roots.cls ∈ vd_tbl) := ⟨by decide +kernel, by decide +kernel, by decide +kernel, vd_mt (List.mem_of_getElem? (i := 517) rfl) rfl, vd_mt (List.mem_of_getElem? (i := 29) (by decide +kernel)) rfl⟩
theorem wi_M_roots : Cond.instanceMethod y_M_roots ∈ vd_tbl := vd_mt (List.mem_of_getElem? (i := 516) (by decide +kernel)) rfl
theorem ws_M_roots : Cond.selects y_M_roots.cls y_M_roots y_M_roots ∈ vd_tbl := vd_mt (List.mem_of_getElem? (i := 22) (by decide +kernel)) rfl
def y_M_changed : MethodName := ⟨"VersionDepotModel", "changed", "()I"⟩
abbrev c_M_changed : ByteArray := prog_6_method_36_code
set_option maxRecDepth 100000 in
theorem mo_M_changed : (y_M_changed.cls ≠ "java/lang/invoke/MethodHandle" ∧ y_M_changed.cls ≠ "java/lang/invoke/VarHandle" ∧ (parseMethodDescriptor y_M_changed.desc).map (fun d => d.parameters.length) = some 0 ∧ Cond.code y_M_changed c_M_changed 3 (some .int) ∈ vd_tbl ∧ Cond.initialized y_M_changed.cls ∈ vd_tbl) := ⟨by decide +kernel, by decide +kernel, by decide +kernel, vd_mt (List.mem_of_getElem? (i := 521) rfl) rfl, vd_mt (List.mem_of_getElem? (i := 29) (by decide +kernel)) rfl⟩
theorem wi_M_changed : Cond.instanceMethod y_M_changed ∈ vd_tbl := vd_mt (List.mem_of_getElem? (i := 520) (by decide +kernel)) rfl
theorem ws_M_changed : Cond.selects y_M_changed.cls y_M_changed y_M_changed ∈ vd_tbl := vd_mt (List.mem_of_getElem? (i := 23) (by decide +kernel)) rfl
def y_M_content : MethodName := ⟨"VersionDepotModel", "content", "(II)I"⟩
abbrev c_M_content : ByteArray := prog_6_method_26_code
set_option maxRecDepth 100000 in
theorem mo_M_content : (y_M_content.cls ≠ "java/lang/invoke/MethodHandle" ∧ y_M_content.cls ≠ "java/lang/invoke/VarHandle" ∧ (parseMethodDescriptor y_M_content.desc).map (fun d => d.parameters.length) = some 2 ∧ Cond.code y_M_content c_M_content 3 (some .int) ∈ vd_tbl ∧ Cond.initialized y_M_content.cls ∈ vd_tbl) := ⟨by decide +kernel, by decide +kernel, by decide +kernel, vd_mt (List.mem_of_getElem? (i := 525) rfl) rfl, vd_mt (List.mem_of_getElem? (i := 29) (by decide +kernel)) rfl⟩
theorem wi_M_content : Cond.instanceMethod y_M_content ∈ vd_tbl := vd_mt (List.mem_of_getElem? (i := 523) (by decide +kernel)) rfl
theorem ws_M_content : Cond.selects y_M_content.cls y_M_content y_M_content ∈ vd_tbl := vd_mt (List.mem_of_getElem? (i := 524) (by decide +kernel)) rfl
def y_M_at : MethodName := ⟨"VersionDepotModel", "at", "(II)I"⟩
abbrev c_M_at : ByteArray := prog_6_method_27_code
set_option maxRecDepth 100000 in
theorem mo_M_at : (y_M_at.cls ≠ "java/lang/invoke/MethodHandle" ∧ y_M_at.cls ≠ "java/lang/invoke/VarHandle" ∧ (parseMethodDescriptor y_M_at.desc).map (fun d => d.parameters.length) = some 2 ∧ Cond.code y_M_at c_M_at 3 (some .int) ∈ vd_tbl ∧ Cond.initialized y_M_at.cls ∈ vd_tbl) := ⟨by decide +kernel, by decide +kernel, by decide +kernel, vd_mt (List.mem_of_getElem? (i := 529) rfl) rfl, vd_mt (List.mem_of_getElem? (i := 29) (by decide +kernel)) rfl⟩
theorem wi_M_at : Cond.instanceMethod y_M_at ∈ vd_tbl := vd_mt (List.mem_of_getElem? (i := 527) (by decide +kernel)) rfl
theorem ws_M_at : Cond.selects y_M_at.cls y_M_at y_M_at ∈ vd_tbl := vd_mt (List.mem_of_getElem? (i := 528) (by decide +kernel)) rfl
def y_M_parent : MethodName := ⟨"VersionDepotModel", "parent", "(II)I"⟩
abbrev c_M_parent : ByteArray := prog_6_method_28_code
set_option maxRecDepth 100000 in
theorem mo_M_parent : (y_M_parent.cls ≠ "java/lang/invoke/MethodHandle" ∧ y_M_parent.cls ≠ "java/lang/invoke/VarHandle" ∧ (parseMethodDescriptor y_M_parent.desc).map (fun d => d.parameters.length) = some 2 ∧ Cond.code y_M_parent c_M_parent 3 (some .int) ∈ vd_tbl ∧ Cond.initialized y_M_parent.cls ∈ vd_tbl) := ⟨by decide +kernel, by decide +kernel, by decide +kernel, vd_mt (List.mem_of_getElem? (i := 533) rfl) rfl, vd_mt (List.mem_of_getElem? (i := 29) (by decide +kernel)) rfl⟩
theorem wi_M_parent : Cond.instanceMethod y_M_parent ∈ vd_tbl := vd_mt (List.mem_of_getElem? (i := 531) (by decide +kernel)) rfl
theorem ws_M_parent : Cond.selects y_M_parent.cls y_M_parent y_M_parent ∈ vd_tbl := vd_mt (List.mem_of_getElem? (i := 532) (by decide +kernel)) rfl
def y_M_branchAt : MethodName := ⟨"VersionDepotModel", "branchAt", "(I)I"⟩
abbrev c_M_branchAt : ByteArray := prog_6_method_29_code
set_option maxRecDepth 100000 in
theorem mo_M_branchAt : (y_M_branchAt.cls ≠ "java/lang/invoke/MethodHandle" ∧ y_M_branchAt.cls ≠ "java/lang/invoke/VarHandle" ∧ (parseMethodDescriptor y_M_branchAt.desc).map (fun d => d.parameters.length) = some 1 ∧ Cond.code y_M_branchAt c_M_branchAt 2 (some .int) ∈ vd_tbl ∧ Cond.initialized y_M_branchAt.cls ∈ vd_tbl) := ⟨by decide +kernel, by decide +kernel, by decide +kernel, vd_mt (List.mem_of_getElem? (i := 537) rfl) rfl, vd_mt (List.mem_of_getElem? (i := 29) (by decide +kernel)) rfl⟩
theorem wi_M_branchAt : Cond.instanceMethod y_M_branchAt ∈ vd_tbl := vd_mt (List.mem_of_getElem? (i := 535) (by decide +kernel)) rfl
theorem ws_M_branchAt : Cond.selects y_M_branchAt.cls y_M_branchAt y_M_branchAt ∈ vd_tbl := vd_mt (List.mem_of_getElem? (i := 536) (by decide +kernel)) rfl
def y_M_common : MethodName := ⟨"VersionDepotModel", "common", "(II)I"⟩
abbrev c_M_common : ByteArray := prog_6_method_30_code
set_option maxRecDepth 100000 in
theorem mo_M_common : (y_M_common.cls ≠ "java/lang/invoke/MethodHandle" ∧ y_M_common.cls ≠ "java/lang/invoke/VarHandle" ∧ (parseMethodDescriptor y_M_common.desc).map (fun d => d.parameters.length) = some 2 ∧ Cond.code y_M_common c_M_common 3 (some .int) ∈ vd_tbl ∧ Cond.initialized y_M_common.cls ∈ vd_tbl) := ⟨by decide +kernel, by decide +kernel, by decide +kernel, vd_mt (List.mem_of_getElem? (i := 541) rfl) rfl, vd_mt (List.mem_of_getElem? (i := 29) (by decide +kernel)) rfl⟩
theorem wi_M_common : Cond.instanceMethod y_M_common ∈ vd_tbl := vd_mt (List.mem_of_getElem? (i := 539) (by decide +kernel)) rfl
theorem ws_M_common : Cond.selects y_M_common.cls y_M_common y_M_common ∈ vd_tbl := vd_mt (List.mem_of_getElem? (i := 540) (by decide +kernel)) rfl
def y_M_differ : MethodName := ⟨"VersionDepotModel", "differ", "(II)I"⟩
abbrev c_M_differ : ByteArray := prog_6_method_31_code
set_option maxRecDepth 100000 in
theorem mo_M_differ : (y_M_differ.cls ≠ "java/lang/invoke/MethodHandle" ∧ y_M_differ.cls ≠ "java/lang/invoke/VarHandle" ∧ (parseMethodDescriptor y_M_differ.desc).map (fun d => d.parameters.length) = some 2 ∧ Cond.code y_M_differ c_M_differ 5 (some .int) ∈ vd_tbl ∧ Cond.initialized y_M_differ.cls ∈ vd_tbl) := ⟨by decide +kernel, by decide +kernel, by decide +kernel, vd_mt (List.mem_of_getElem? (i := 545) rfl) rfl, vd_mt (List.mem_of_getElem? (i := 29) (by decide +kernel)) rfl⟩
theorem wi_M_differ : Cond.instanceMethod y_M_differ ∈ vd_tbl := vd_mt (List.mem_of_getElem? (i := 543) (by decide +kernel)) rfl
theorem ws_M_differ : Cond.selects y_M_differ.cls y_M_differ y_M_differ ∈ vd_tbl := vd_mt (List.mem_of_getElem? (i := 544) (by decide +kernel)) rfl
def y_M_clashing : MethodName := ⟨"VersionDepotModel", "clashing", "(I)Z"⟩
abbrev c_M_clashing : ByteArray := prog_6_method_32_code
set_option maxRecDepth 100000 in
theorem mo_M_clashing : (y_M_clashing.cls ≠ "java/lang/invoke/MethodHandle" ∧ y_M_clashing.cls ≠ "java/lang/invoke/VarHandle" ∧ (parseMethodDescriptor y_M_clashing.desc).map (fun d => d.parameters.length) = some 1 ∧ Cond.code y_M_clashing c_M_clashing 2 (some .boolean) ∈ vd_tbl ∧ Cond.initialized y_M_clashing.cls ∈ vd_tbl) := ⟨by decide +kernel, by decide +kernel, by decide +kernel, vd_mt (List.mem_of_getElem? (i := 549) rfl) rfl, vd_mt (List.mem_of_getElem? (i := 29) (by decide +kernel)) rfl⟩
theorem wi_M_clashing : Cond.instanceMethod y_M_clashing ∈ vd_tbl := vd_mt (List.mem_of_getElem? (i := 547) (by decide +kernel)) rfl
theorem ws_M_clashing : Cond.selects y_M_clashing.cls y_M_clashing y_M_clashing ∈ vd_tbl := vd_mt (List.mem_of_getElem? (i := 548) (by decide +kernel)) rfl
theorem lk_B_11 : Cond.fieldLink "VersionDepot$Blobs" 11 "VersionDepot$Blobs" "bits" "[J" ∈ vd_tbl := vd_mt (List.mem_of_getElem? (i := 53) (by decide +kernel)) rfl
theorem lk_W_9 : Cond.fieldLink "VersionDepot$Rows" 9 "VersionDepot$Rows" "numbers" "[I" ∈ vd_tbl := vd_mt (List.mem_of_getElem? (i := 64) (by decide +kernel)) rfl
theorem lk_W_15 : Cond.fieldLink "VersionDepot$Rows" 15 "VersionDepot$Rows" "stored" "[Z" ∈ vd_tbl := vd_mt (List.mem_of_getElem? (i := 65) (by decide +kernel)) rfl
theorem lk_W_19 : Cond.fieldLink "VersionDepot$Rows" 19 "VersionDepot$Rows" "last" "I" ∈ vd_tbl := vd_mt (List.mem_of_getElem? (i := 66) (by decide +kernel)) rfl
theorem lk_S_12 : Cond.fieldLink "VersionDepot$Store" 12 "VersionDepot$Store" "blobs" "LVersionDepot$Blobs;" ∈ vd_tbl := vd_mt (List.mem_of_getElem? (i := 76) (by decide +kernel)) rfl
theorem lk_D_33 : Cond.fieldLink "VersionDepot" 33 "VersionDepot$Store" "blobs" "LVersionDepot$Blobs;" ∈ vd_tbl := vd_mt (List.mem_of_getElem? (i := 77) (by decide +kernel)) rfl
theorem lk_S_23 : Cond.fieldLink "VersionDepot$Store" 23 "VersionDepot$Store" "folders" "LVersionDepot$Rows;" ∈ vd_tbl := vd_mt (List.mem_of_getElem? (i := 78) (by decide +kernel)) rfl
theorem lk_D_115 : Cond.fieldLink "VersionDepot" 115 "VersionDepot$Store" "folders" "LVersionDepot$Rows;" ∈ vd_tbl := vd_mt (List.mem_of_getElem? (i := 79) (by decide +kernel)) rfl
theorem lk_S_27 : Cond.fieldLink "VersionDepot$Store" 27 "VersionDepot$Store" "roots" "LVersionDepot$Rows;" ∈ vd_tbl := vd_mt (List.mem_of_getElem? (i := 80) (by decide +kernel)) rfl
theorem lk_D_122 : Cond.fieldLink "VersionDepot" 122 "VersionDepot$Store" "roots" "LVersionDepot$Rows;" ∈ vd_tbl := vd_mt (List.mem_of_getElem? (i := 81) (by decide +kernel)) rfl
theorem lk_S_30 : Cond.fieldLink "VersionDepot$Store" 30 "VersionDepot$Store" "rootOf" "[I" ∈ vd_tbl := vd_mt (List.mem_of_getElem? (i := 82) (by decide +kernel)) rfl
theorem lk_S_34 : Cond.fieldLink "VersionDepot$Store" 34 "VersionDepot$Store" "firstParents" "[I" ∈ vd_tbl := vd_mt (List.mem_of_getElem? (i := 83) (by decide +kernel)) rfl
theorem lk_S_37 : Cond.fieldLink "VersionDepot$Store" 37 "VersionDepot$Store" "secondParents" "[I" ∈ vd_tbl := vd_mt (List.mem_of_getElem? (i := 84) (by decide +kernel)) rfl
theorem lk_S_40 : Cond.fieldLink "VersionDepot$Store" 40 "VersionDepot$Store" "ancestors" "[I" ∈ vd_tbl := vd_mt (List.mem_of_getElem? (i := 85) (by decide +kernel)) rfl
theorem lk_S_43 : Cond.fieldLink "VersionDepot$Store" 43 "VersionDepot$Store" "folderRow" "[I" ∈ vd_tbl := vd_mt (List.mem_of_getElem? (i := 86) (by decide +kernel)) rfl
theorem lk_S_46 : Cond.fieldLink "VersionDepot$Store" 46 "VersionDepot$Store" "made" "I" ∈ vd_tbl := vd_mt (List.mem_of_getElem? (i := 87) (by decide +kernel)) rfl
theorem lk_D_128 : Cond.fieldLink "VersionDepot" 128 "VersionDepot$Store" "made" "I" ∈ vd_tbl := vd_mt (List.mem_of_getElem? (i := 88) (by decide +kernel)) rfl
theorem lk_S_50 : Cond.fieldLink "VersionDepot$Store" 50 "VersionDepot$Store" "stored" "I" ∈ vd_tbl := vd_mt (List.mem_of_getElem? (i := 89) (by decide +kernel)) rfl
theorem lk_D_10 : Cond.fieldLink "VersionDepot" 10 "VersionDepot" "store" "LVersionDepot$Store;" ∈ vd_tbl := vd_mt (List.mem_of_getElem? (i := 111) (by decide +kernel)) rfl
theorem lk_D_16 : Cond.fieldLink "VersionDepot" 16 "VersionDepot" "work" "[I" ∈ vd_tbl := vd_mt (List.mem_of_getElem? (i := 112) (by decide +kernel)) rfl
theorem lk_D_20 : Cond.fieldLink "VersionDepot" 20 "VersionDepot" "index" "[I" ∈ vd_tbl := vd_mt (List.mem_of_getElem? (i := 113) (by decide +kernel)) rfl
theorem lk_D_23 : Cond.fieldLink "VersionDepot" 23 "VersionDepot" "mixture" "[I" ∈ vd_tbl := vd_mt (List.mem_of_getElem? (i := 114) (by decide +kernel)) rfl
theorem lk_D_26 : Cond.fieldLink "VersionDepot" 26 "VersionDepot" "tips" "[I" ∈ vd_tbl := vd_mt (List.mem_of_getElem? (i := 115) (by decide +kernel)) rfl
theorem lk_D_58 : Cond.fieldLink "VersionDepot" 58 "VersionDepot" "head" "I" ∈ vd_tbl := vd_mt (List.mem_of_getElem? (i := 116) (by decide +kernel)) rfl
theorem lk_D_47 : Cond.fieldLink "VersionDepot" 47 "VersionDepot" "merging" "I" ∈ vd_tbl := vd_mt (List.mem_of_getElem? (i := 117) (by decide +kernel)) rfl
theorem lk_D_43 : Cond.fieldLink "VersionDepot" 43 "VersionDepot" "clashes" "I" ∈ vd_tbl := vd_mt (List.mem_of_getElem? (i := 118) (by decide +kernel)) rfl
theorem lk_M_7 : Cond.fieldLink "VersionDepotModel" 7 "VersionDepotModel" "content" "[I" ∈ vd_tbl := vd_mt (List.mem_of_getElem? (i := 370) (by decide +kernel)) rfl
theorem lk_M_13 : Cond.fieldLink "VersionDepotModel" 13 "VersionDepotModel" "stored" "[Z" ∈ vd_tbl := vd_mt (List.mem_of_getElem? (i := 371) (by decide +kernel)) rfl
theorem lk_M_17 : Cond.fieldLink "VersionDepotModel" 17 "VersionDepotModel" "first" "[I" ∈ vd_tbl := vd_mt (List.mem_of_getElem? (i := 372) (by decide +kernel)) rfl
theorem lk_M_20 : Cond.fieldLink "VersionDepotModel" 20 "VersionDepotModel" "second" "[I" ∈ vd_tbl := vd_mt (List.mem_of_getElem? (i := 373) (by decide +kernel)) rfl
theorem lk_M_58 : Cond.fieldLink "VersionDepotModel" 58 "VersionDepotModel" "made" "I" ∈ vd_tbl := vd_mt (List.mem_of_getElem? (i := 374) (by decide +kernel)) rfl
theorem lk_M_23 : Cond.fieldLink "VersionDepotModel" 23 "VersionDepotModel" "branch" "[I" ∈ vd_tbl := vd_mt (List.mem_of_getElem? (i := 375) (by decide +kernel)) rfl
theorem lk_M_38 : Cond.fieldLink "VersionDepotModel" 38 "VersionDepotModel" "head" "I" ∈ vd_tbl := vd_mt (List.mem_of_getElem? (i := 376) (by decide +kernel)) rfl
theorem lk_M_64 : Cond.fieldLink "VersionDepotModel" 64 "VersionDepotModel" "merging" "I" ∈ vd_tbl := vd_mt (List.mem_of_getElem? (i := 377) (by decide +kernel)) rfl
theorem lk_M_26 : Cond.fieldLink "VersionDepotModel" 26 "VersionDepotModel" "clashing" "[Z" ∈ vd_tbl := vd_mt (List.mem_of_getElem? (i := 378) (by decide +kernel)) rfl
theorem lk_M_29 : Cond.fieldLink "VersionDepotModel" 29 "VersionDepotModel" "blob" "[Z" ∈ vd_tbl := vd_mt (List.mem_of_getElem? (i := 379) (by decide +kernel)) rfl
theorem lk_M_32 : Cond.fieldLink "VersionDepotModel" 32 "VersionDepotModel" "marked" "[Z" ∈ vd_tbl := vd_mt (List.mem_of_getElem? (i := 380) (by decide +kernel)) rfl
theorem lk_M_35 : Cond.fieldLink "VersionDepotModel" 35 "VersionDepotModel" "other" "[Z" ∈ vd_tbl := vd_mt (List.mem_of_getElem? (i := 381) (by decide +kernel)) rfl
theorem ml_L_9 : Cond.methodLink "VersionDepotLaw" 9 y_D_init ∈ vd_tbl := vd_mt (List.mem_of_getElem? (i := 35) (by decide +kernel)) rfl
theorem ml_D_1 : Cond.methodLink "VersionDepot" 1 objectInit ∈ vd_tbl := vd_mt (List.mem_of_getElem? (i := 38) (by decide +kernel)) rfl
theorem ml_D_9 : Cond.methodLink "VersionDepot" 9 y_S_init ∈ vd_tbl := vd_mt (List.mem_of_getElem? (i := 43) (by decide +kernel)) rfl
theorem ml_S_3 : Cond.methodLink "VersionDepot$Store" 3 objectInit ∈ vd_tbl := vd_mt (List.mem_of_getElem? (i := 46) (by decide +kernel)) rfl
theorem ml_S_11 : Cond.methodLink "VersionDepot$Store" 11 y_B_init ∈ vd_tbl := vd_mt (List.mem_of_getElem? (i := 49) (by decide +kernel)) rfl
theorem ml_B_3 : Cond.methodLink "VersionDepot$Blobs" 3 objectInit ∈ vd_tbl := vd_mt (List.mem_of_getElem? (i := 52) (by decide +kernel)) rfl
theorem ml_S_20 : Cond.methodLink "VersionDepot$Store" 20 y_W_init ∈ vd_tbl := vd_mt (List.mem_of_getElem? (i := 60) (by decide +kernel)) rfl
theorem ml_W_3 : Cond.methodLink "VersionDepot$Rows" 3 objectInit ∈ vd_tbl := vd_mt (List.mem_of_getElem? (i := 63) (by decide +kernel)) rfl
theorem ml_L_13 : Cond.methodLink "VersionDepotLaw" 13 y_D_write ∈ vd_tbl := vd_mt (List.mem_of_getElem? (i := 136) (by decide +kernel)) rfl
theorem ml_D_29 : Cond.methodLink "VersionDepot" 29 y_D_isFile ∈ vd_tbl := vd_mt (List.mem_of_getElem? (i := 140) (by decide +kernel)) rfl
theorem ml_L_18 : Cond.methodLink "VersionDepotLaw" 18 y_D_stage ∈ vd_tbl := vd_mt (List.mem_of_getElem? (i := 143) (by decide +kernel)) rfl
theorem ml_D_37 : Cond.methodLink "VersionDepot" 37 y_B_keep ∈ vd_tbl := vd_mt (List.mem_of_getElem? (i := 147) (by decide +kernel)) rfl
theorem ml_L_23 : Cond.methodLink "VersionDepotLaw" 23 y_D_commit ∈ vd_tbl := vd_mt (List.mem_of_getElem? (i := 151) (by decide +kernel)) rfl
theorem ml_D_50 : Cond.methodLink "VersionDepot" 50 y_D_isAsHere ∈ vd_tbl := vd_mt (List.mem_of_getElem? (i := 155) (by decide +kernel)) rfl
theorem ml_D_61 : Cond.methodLink "VersionDepot" 61 y_D_here ∈ vd_tbl := vd_mt (List.mem_of_getElem? (i := 159) (by decide +kernel)) rfl
theorem ml_D_108 : Cond.methodLink "VersionDepot" 108 y_S_contentOf ∈ vd_tbl := vd_mt (List.mem_of_getElem? (i := 163) (by decide +kernel)) rfl
theorem ml_S_67 : Cond.methodLink "VersionDepot$Store" 67 y_W_get ∈ vd_tbl := vd_mt (List.mem_of_getElem? (i := 167) (by decide +kernel)) rfl
theorem ml_D_54 : Cond.methodLink "VersionDepot" 54 y_S_isFull ∈ vd_tbl := vd_mt (List.mem_of_getElem? (i := 171) (by decide +kernel)) rfl
theorem ml_D_65 : Cond.methodLink "VersionDepot" 65 y_S_make ∈ vd_tbl := vd_mt (List.mem_of_getElem? (i := 175) (by decide +kernel)) rfl
theorem ml_S_71 : Cond.methodLink "VersionDepot$Store" 71 y_S_keepRoot ∈ vd_tbl := vd_mt (List.mem_of_getElem? (i := 179) (by decide +kernel)) rfl
theorem ml_S_75 : Cond.methodLink "VersionDepot$Store" 75 y_S_keepFolder ∈ vd_tbl := vd_mt (List.mem_of_getElem? (i := 183) (by decide +kernel)) rfl
theorem ml_S_82 : Cond.methodLink "VersionDepot$Store" 82 y_B_keep ∈ vd_tbl := vd_mt (List.mem_of_getElem? (i := 187) (by decide +kernel)) rfl
theorem ml_S_79 : Cond.methodLink "VersionDepot$Store" 79 y_W_keep ∈ vd_tbl := vd_mt (List.mem_of_getElem? (i := 188) (by decide +kernel)) rfl
theorem ml_W_23 : Cond.methodLink "VersionDepot$Rows" 23 y_W_isAlike ∈ vd_tbl := vd_mt (List.mem_of_getElem? (i := 192) (by decide +kernel)) rfl
theorem ml_W_27 : Cond.methodLink "VersionDepot$Rows" 27 arraycopyName ∈ vd_tbl := vd_mt (List.mem_of_getElem? (i := 196) (by decide +kernel)) rfl
theorem ml_L_28 : Cond.methodLink "VersionDepotLaw" 28 y_D_branch ∈ vd_tbl := vd_mt (List.mem_of_getElem? (i := 199) (by decide +kernel)) rfl
theorem ml_D_69 : Cond.methodLink "VersionDepot" 69 y_D_isBranch ∈ vd_tbl := vd_mt (List.mem_of_getElem? (i := 203) (by decide +kernel)) rfl
theorem ml_L_32 : Cond.methodLink "VersionDepotLaw" 32 y_D_turn ∈ vd_tbl := vd_mt (List.mem_of_getElem? (i := 206) (by decide +kernel)) rfl
theorem ml_D_72 : Cond.methodLink "VersionDepot" 72 y_D_isThere ∈ vd_tbl := vd_mt (List.mem_of_getElem? (i := 210) (by decide +kernel)) rfl
theorem ml_D_75 : Cond.methodLink "VersionDepot" 75 y_D_isTidy ∈ vd_tbl := vd_mt (List.mem_of_getElem? (i := 214) (by decide +kernel)) rfl
theorem ml_D_136 : Cond.methodLink "VersionDepot" 136 y_D_unstaged ∈ vd_tbl := vd_mt (List.mem_of_getElem? (i := 218) (by decide +kernel)) rfl
theorem ml_D_78 : Cond.methodLink "VersionDepot" 78 y_D_moveTo ∈ vd_tbl := vd_mt (List.mem_of_getElem? (i := 222) (by decide +kernel)) rfl
theorem ml_L_36 : Cond.methodLink "VersionDepotLaw" 36 y_D_merge ∈ vd_tbl := vd_mt (List.mem_of_getElem? (i := 226) (by decide +kernel)) rfl
theorem ml_D_82 : Cond.methodLink "VersionDepot" 82 y_S_leadsTo ∈ vd_tbl := vd_mt (List.mem_of_getElem? (i := 230) (by decide +kernel)) rfl
theorem ml_D_86 : Cond.methodLink "VersionDepot" 86 y_D_mergeApart ∈ vd_tbl := vd_mt (List.mem_of_getElem? (i := 234) (by decide +kernel)) rfl
theorem ml_D_111 : Cond.methodLink "VersionDepot" 111 y_S_meetingOf ∈ vd_tbl := vd_mt (List.mem_of_getElem? (i := 238) (by decide +kernel)) rfl
theorem ml_D_96 : Cond.methodLink "VersionDepot" 96 y_D_mixHereWith ∈ vd_tbl := vd_mt (List.mem_of_getElem? (i := 242) (by decide +kernel)) rfl
theorem ml_D_139 : Cond.methodLink "VersionDepot" 139 arraycopyName ∈ vd_tbl := vd_mt (List.mem_of_getElem? (i := 246) (by decide +kernel)) rfl
theorem ml_L_40 : Cond.methodLink "VersionDepotLaw" 40 y_D_abort ∈ vd_tbl := vd_mt (List.mem_of_getElem? (i := 247) (by decide +kernel)) rfl
theorem ml_L_44 : Cond.methodLink "VersionDepotLaw" 44 y_D_pick ∈ vd_tbl := vd_mt (List.mem_of_getElem? (i := 251) (by decide +kernel)) rfl
theorem ml_D_89 : Cond.methodLink "VersionDepot" 89 y_S_holds ∈ vd_tbl := vd_mt (List.mem_of_getElem? (i := 255) (by decide +kernel)) rfl
theorem ml_D_92 : Cond.methodLink "VersionDepot" 92 y_S_parentOf ∈ vd_tbl := vd_mt (List.mem_of_getElem? (i := 259) (by decide +kernel)) rfl
theorem ml_L_48 : Cond.methodLink "VersionDepotLaw" 48 y_D_reset ∈ vd_tbl := vd_mt (List.mem_of_getElem? (i := 263) (by decide +kernel)) rfl
theorem ml_L_52 : Cond.methodLink "VersionDepotLaw" 52 y_D_remove ∈ vd_tbl := vd_mt (List.mem_of_getElem? (i := 267) (by decide +kernel)) rfl
theorem ml_L_56 : Cond.methodLink "VersionDepotLaw" 56 y_D_sweep ∈ vd_tbl := vd_mt (List.mem_of_getElem? (i := 271) (by decide +kernel)) rfl
theorem ml_D_99 : Cond.methodLink "VersionDepot" 99 y_S_size ∈ vd_tbl := vd_mt (List.mem_of_getElem? (i := 275) (by decide +kernel)) rfl
theorem ml_S_59 : Cond.methodLink "VersionDepot$Store" 59 y_B_size ∈ vd_tbl := vd_mt (List.mem_of_getElem? (i := 279) (by decide +kernel)) rfl
theorem ml_B_15 : Cond.methodLink "VersionDepot$Blobs" 15 y_J_bitCount ∈ vd_tbl := vd_mt (List.mem_of_getElem? (i := 283) (by decide +kernel)) rfl
theorem ml_S_63 : Cond.methodLink "VersionDepot$Store" 63 y_W_size ∈ vd_tbl := vd_mt (List.mem_of_getElem? (i := 289) (by decide +kernel)) rfl
theorem ml_S_64 : Cond.methodLink "VersionDepot$Store" 64 y_S_commits ∈ vd_tbl := vd_mt (List.mem_of_getElem? (i := 293) (by decide +kernel)) rfl
theorem ml_S_53 : Cond.methodLink "VersionDepot$Store" 53 y_I_bitCount ∈ vd_tbl := vd_mt (List.mem_of_getElem? (i := 297) (by decide +kernel)) rfl
theorem ml_D_102 : Cond.methodLink "VersionDepot" 102 y_S_ancestorsOf ∈ vd_tbl := vd_mt (List.mem_of_getElem? (i := 303) (by decide +kernel)) rfl
theorem ml_D_105 : Cond.methodLink "VersionDepot" 105 y_S_keepOnly ∈ vd_tbl := vd_mt (List.mem_of_getElem? (i := 307) (by decide +kernel)) rfl
theorem ml_S_84 : Cond.methodLink "VersionDepot$Store" 84 y_B_clear ∈ vd_tbl := vd_mt (List.mem_of_getElem? (i := 311) (by decide +kernel)) rfl
theorem ml_S_87 : Cond.methodLink "VersionDepot$Store" 87 y_W_clear ∈ vd_tbl := vd_mt (List.mem_of_getElem? (i := 315) (by decide +kernel)) rfl
theorem ml_S_88 : Cond.methodLink "VersionDepot$Store" 88 y_S_holds ∈ vd_tbl := vd_mt (List.mem_of_getElem? (i := 319) (by decide +kernel)) rfl
theorem ml_S_92 : Cond.methodLink "VersionDepot$Store" 92 y_S_keepAgain ∈ vd_tbl := vd_mt (List.mem_of_getElem? (i := 320) (by decide +kernel)) rfl
theorem ml_S_95 : Cond.methodLink "VersionDepot$Store" 95 y_W_keepAgain ∈ vd_tbl := vd_mt (List.mem_of_getElem? (i := 324) (by decide +kernel)) rfl
theorem ml_L_60 : Cond.methodLink "VersionDepotLaw" 60 y_D_content ∈ vd_tbl := vd_mt (List.mem_of_getElem? (i := 328) (by decide +kernel)) rfl
theorem ml_L_64 : Cond.methodLink "VersionDepotLaw" 64 y_D_at ∈ vd_tbl := vd_mt (List.mem_of_getElem? (i := 332) (by decide +kernel)) rfl
theorem ml_L_68 : Cond.methodLink "VersionDepotLaw" 68 y_D_parent ∈ vd_tbl := vd_mt (List.mem_of_getElem? (i := 336) (by decide +kernel)) rfl
theorem ml_L_72 : Cond.methodLink "VersionDepotLaw" 72 y_D_branchAt ∈ vd_tbl := vd_mt (List.mem_of_getElem? (i := 340) (by decide +kernel)) rfl
theorem ml_L_76 : Cond.methodLink "VersionDepotLaw" 76 y_D_common ∈ vd_tbl := vd_mt (List.mem_of_getElem? (i := 344) (by decide +kernel)) rfl
theorem ml_L_80 : Cond.methodLink "VersionDepotLaw" 80 y_D_differ ∈ vd_tbl := vd_mt (List.mem_of_getElem? (i := 348) (by decide +kernel)) rfl
theorem ml_L_84 : Cond.methodLink "VersionDepotLaw" 84 y_D_clashing ∈ vd_tbl := vd_mt (List.mem_of_getElem? (i := 352) (by decide +kernel)) rfl
theorem ml_L_89 : Cond.methodLink "VersionDepotLaw" 89 y_D_count ∈ vd_tbl := vd_mt (List.mem_of_getElem? (i := 356) (by decide +kernel)) rfl
theorem ml_D_114 : Cond.methodLink "VersionDepot" 114 y_B_size ∈ vd_tbl := vd_mt (List.mem_of_getElem? (i := 360) (by decide +kernel)) rfl
theorem ml_D_119 : Cond.methodLink "VersionDepot" 119 y_W_size ∈ vd_tbl := vd_mt (List.mem_of_getElem? (i := 361) (by decide +kernel)) rfl
theorem ml_D_125 : Cond.methodLink "VersionDepot" 125 y_S_commits ∈ vd_tbl := vd_mt (List.mem_of_getElem? (i := 362) (by decide +kernel)) rfl
theorem ml_D_131 : Cond.methodLink "VersionDepot" 131 y_I_bitCount ∈ vd_tbl := vd_mt (List.mem_of_getElem? (i := 363) (by decide +kernel)) rfl
theorem ml_L_12 : Cond.methodLink "VersionDepotLaw" 12 y_M_init ∈ vd_tbl := vd_mt (List.mem_of_getElem? (i := 366) (by decide +kernel)) rfl
theorem ml_M_1 : Cond.methodLink "VersionDepotModel" 1 objectInit ∈ vd_tbl := vd_mt (List.mem_of_getElem? (i := 369) (by decide +kernel)) rfl
theorem ml_L_17 : Cond.methodLink "VersionDepotLaw" 17 y_M_write ∈ vd_tbl := vd_mt (List.mem_of_getElem? (i := 407) (by decide +kernel)) rfl
theorem ml_M_42 : Cond.methodLink "VersionDepotModel" 42 y_M_in ∈ vd_tbl := vd_mt (List.mem_of_getElem? (i := 411) (by decide +kernel)) rfl
theorem ml_L_22 : Cond.methodLink "VersionDepotLaw" 22 y_M_stage ∈ vd_tbl := vd_mt (List.mem_of_getElem? (i := 414) (by decide +kernel)) rfl
theorem ml_L_27 : Cond.methodLink "VersionDepotLaw" 27 y_M_commit ∈ vd_tbl := vd_mt (List.mem_of_getElem? (i := 418) (by decide +kernel)) rfl
theorem ml_M_61 : Cond.methodLink "VersionDepotModel" 61 y_M_clashes ∈ vd_tbl := vd_mt (List.mem_of_getElem? (i := 422) (by decide +kernel)) rfl
theorem ml_M_54 : Cond.methodLink "VersionDepotModel" 54 y_M_here ∈ vd_tbl := vd_mt (List.mem_of_getElem? (i := 426) (by decide +kernel)) rfl
theorem ml_M_50 : Cond.methodLink "VersionDepotModel" 50 y_M_same ∈ vd_tbl := vd_mt (List.mem_of_getElem? (i := 430) (by decide +kernel)) rfl
theorem ml_M_67 : Cond.methodLink "VersionDepotModel" 67 y_M_make ∈ vd_tbl := vd_mt (List.mem_of_getElem? (i := 434) (by decide +kernel)) rfl
theorem ml_M_46 : Cond.methodLink "VersionDepotModel" 46 y_M_copy ∈ vd_tbl := vd_mt (List.mem_of_getElem? (i := 438) (by decide +kernel)) rfl
theorem ml_L_31 : Cond.methodLink "VersionDepotLaw" 31 y_M_branch ∈ vd_tbl := vd_mt (List.mem_of_getElem? (i := 442) (by decide +kernel)) rfl
theorem ml_L_35 : Cond.methodLink "VersionDepotLaw" 35 y_M_turn ∈ vd_tbl := vd_mt (List.mem_of_getElem? (i := 446) (by decide +kernel)) rfl
theorem ml_M_71 : Cond.methodLink "VersionDepotModel" 71 y_M_tidy ∈ vd_tbl := vd_mt (List.mem_of_getElem? (i := 450) (by decide +kernel)) rfl
theorem ml_M_75 : Cond.methodLink "VersionDepotModel" 75 y_M_show ∈ vd_tbl := vd_mt (List.mem_of_getElem? (i := 454) (by decide +kernel)) rfl
theorem ml_L_39 : Cond.methodLink "VersionDepotLaw" 39 y_M_merge ∈ vd_tbl := vd_mt (List.mem_of_getElem? (i := 458) (by decide +kernel)) rfl
theorem ml_M_82 : Cond.methodLink "VersionDepotModel" 82 y_M_shared ∈ vd_tbl := vd_mt (List.mem_of_getElem? (i := 462) (by decide +kernel)) rfl
theorem ml_M_79 : Cond.methodLink "VersionDepotModel" 79 y_M_mark ∈ vd_tbl := vd_mt (List.mem_of_getElem? (i := 466) (by decide +kernel)) rfl
theorem ml_M_86 : Cond.methodLink "VersionDepotModel" 86 y_M_mix ∈ vd_tbl := vd_mt (List.mem_of_getElem? (i := 470) (by decide +kernel)) rfl
theorem ml_L_43 : Cond.methodLink "VersionDepotLaw" 43 y_M_abort ∈ vd_tbl := vd_mt (List.mem_of_getElem? (i := 474) (by decide +kernel)) rfl
theorem ml_L_47 : Cond.methodLink "VersionDepotLaw" 47 y_M_pick ∈ vd_tbl := vd_mt (List.mem_of_getElem? (i := 478) (by decide +kernel)) rfl
theorem ml_M_90 : Cond.methodLink "VersionDepotModel" 90 y_M_isStored ∈ vd_tbl := vd_mt (List.mem_of_getElem? (i := 482) (by decide +kernel)) rfl
theorem ml_L_51 : Cond.methodLink "VersionDepotLaw" 51 y_M_reset ∈ vd_tbl := vd_mt (List.mem_of_getElem? (i := 486) (by decide +kernel)) rfl
theorem ml_L_55 : Cond.methodLink "VersionDepotLaw" 55 y_M_remove ∈ vd_tbl := vd_mt (List.mem_of_getElem? (i := 490) (by decide +kernel)) rfl
theorem ml_L_59 : Cond.methodLink "VersionDepotLaw" 59 y_M_sweep ∈ vd_tbl := vd_mt (List.mem_of_getElem? (i := 494) (by decide +kernel)) rfl
theorem ml_M_98 : Cond.methodLink "VersionDepotModel" 98 y_M_objects ∈ vd_tbl := vd_mt (List.mem_of_getElem? (i := 498) (by decide +kernel)) rfl
theorem ml_M_94 : Cond.methodLink "VersionDepotModel" 94 y_M_count ∈ vd_tbl := vd_mt (List.mem_of_getElem? (i := 502) (by decide +kernel)) rfl
theorem ml_M_104 : Cond.methodLink "VersionDepotModel" 104 y_M_folders ∈ vd_tbl := vd_mt (List.mem_of_getElem? (i := 506) (by decide +kernel)) rfl
theorem ml_M_101 : Cond.methodLink "VersionDepotModel" 101 y_M_alike ∈ vd_tbl := vd_mt (List.mem_of_getElem? (i := 510) (by decide +kernel)) rfl
theorem ml_M_107 : Cond.methodLink "VersionDepotModel" 107 y_M_roots ∈ vd_tbl := vd_mt (List.mem_of_getElem? (i := 514) (by decide +kernel)) rfl
theorem ml_M_110 : Cond.methodLink "VersionDepotModel" 110 y_M_changed ∈ vd_tbl := vd_mt (List.mem_of_getElem? (i := 518) (by decide +kernel)) rfl
theorem ml_L_63 : Cond.methodLink "VersionDepotLaw" 63 y_M_content ∈ vd_tbl := vd_mt (List.mem_of_getElem? (i := 522) (by decide +kernel)) rfl
theorem ml_L_67 : Cond.methodLink "VersionDepotLaw" 67 y_M_at ∈ vd_tbl := vd_mt (List.mem_of_getElem? (i := 526) (by decide +kernel)) rfl
theorem ml_L_71 : Cond.methodLink "VersionDepotLaw" 71 y_M_parent ∈ vd_tbl := vd_mt (List.mem_of_getElem? (i := 530) (by decide +kernel)) rfl
theorem ml_L_75 : Cond.methodLink "VersionDepotLaw" 75 y_M_branchAt ∈ vd_tbl := vd_mt (List.mem_of_getElem? (i := 534) (by decide +kernel)) rfl
theorem ml_L_79 : Cond.methodLink "VersionDepotLaw" 79 y_M_common ∈ vd_tbl := vd_mt (List.mem_of_getElem? (i := 538) (by decide +kernel)) rfl
theorem ml_L_83 : Cond.methodLink "VersionDepotLaw" 83 y_M_differ ∈ vd_tbl := vd_mt (List.mem_of_getElem? (i := 542) (by decide +kernel)) rfl
theorem ml_L_88 : Cond.methodLink "VersionDepotLaw" 88 y_M_clashing ∈ vd_tbl := vd_mt (List.mem_of_getElem? (i := 546) (by decide +kernel)) rfl
theorem ml_L_92 : Cond.methodLink "VersionDepotLaw" 92 y_M_count ∈ vd_tbl := vd_mt (List.mem_of_getElem? (i := 550) (by decide +kernel)) rfl
theorem kc_J_314 : Cond.constantLong "java/lang/Long" 314 (lN 6148914691236517205) ∈ vd_tbl := vd_mt (List.mem_of_getElem? (i := 286) (by decide +kernel)) rfl
theorem kc_J_316 : Cond.constantLong "java/lang/Long" 316 (lN 3689348814741910323) ∈ vd_tbl := vd_mt (List.mem_of_getElem? (i := 287) (by decide +kernel)) rfl
theorem kc_J_318 : Cond.constantLong "java/lang/Long" 318 (lN 1085102592571150095) ∈ vd_tbl := vd_mt (List.mem_of_getElem? (i := 288) (by decide +kernel)) rfl
theorem kc_I_265 : Cond.constant "java/lang/Integer" 265 (nI 1431655765) ∈ vd_tbl := vd_mt (List.mem_of_getElem? (i := 300) (by decide +kernel)) rfl
theorem kc_I_266 : Cond.constant "java/lang/Integer" 266 (nI 858993459) ∈ vd_tbl := vd_mt (List.mem_of_getElem? (i := 301) (by decide +kernel)) rfl
theorem kc_I_267 : Cond.constant "java/lang/Integer" 267 (nI 252645135) ∈ vd_tbl := vd_mt (List.mem_of_getElem? (i := 302) (by decide +kernel)) rfl
