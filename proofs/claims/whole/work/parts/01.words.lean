/-! words, classes, names -/
def xv_BIG : List Cond := lw_tbl.filter goodWord
theorem xv_in (k : Nat) {w : Cond} (h : tables_1[k]? = some w) (g : goodWord w = true) : w ∈ xv_BIG := List.mem_filter.mpr ⟨List.mem_append_right _ (List.mem_of_getElem? h), g⟩
theorem xv_inP (k : Nat) {w : Cond} (h : (k2_sels lw_privs)[k]? = some w) (g : goodWord w = true) : w ∈ xv_BIG := List.mem_filter.mpr ⟨List.mem_append_left _ (List.mem_of_getElem? h), g⟩
theorem xv_good (w : Cond) (h : w ∈ xv_BIG) : w ∈ xv_BIG ∧ ((w.onTables && w.keeps) = true ∨ ∃ ty, w = .arrayClass ty) := ⟨h, good_of_word (List.mem_filter.mp h).2⟩
def xv_nest : List Cond := [(Jvm.Cond.methodLinkNest "FaslDesk" (9 : Nat) ({ cls := "FaslDesk$Form", name := "<init>", desc := "()V" } : Jvm.MethodName) "FaslDesk"), (Jvm.Cond.methodLinkNest "FaslDesk$Interpreter" (29 : Nat) ({ cls := "FaslDesk$Form", name := "<init>", desc := "()V" } : Jvm.MethodName) "FaslDesk"), (Jvm.Cond.methodLinkNest "FaslDesk$Interpreter" (30 : Nat) ({ cls := "FaslDesk$Frame", name := "<init>", desc := "()V" } : Jvm.MethodName) "FaslDesk"), (Jvm.Cond.methodLinkNest "FaslDesk$Interpreter" (31 : Nat) ({ cls := "FaslDesk$OpenForms", name := "<init>", desc := "()V" } : Jvm.MethodName) "FaslDesk"), (Jvm.Cond.methodLinkNest "FaslDesk" (25 : Nat) ({ cls := "FaslDesk$Compiler", name := "<init>", desc := "()V" } : Jvm.MethodName) "FaslDesk"), (Jvm.Cond.methodLinkNest "FaslDesk$Archive" (19 : Nat) ({ cls := "FaslDesk$CodeCheck", name := "<init>", desc := "()V" } : Jvm.MethodName) "FaslDesk"), (Jvm.Cond.methodLinkNest "FaslDesk$Archive" (24 : Nat) ({ cls := "FaslDesk$Entry", name := "<init>", desc := "()V" } : Jvm.MethodName) "FaslDesk"), (Jvm.Cond.methodLinkNest "FaslDesk$Entry" (11 : Nat) ({ cls := "FaslDesk$Code", name := "<init>", desc := "()V" } : Jvm.MethodName) "FaslDesk"), (Jvm.Cond.methodLinkNest "FaslDesk$Image" (23 : Nat) ({ cls := "FaslDesk$Code", name := "<init>", desc := "()V" } : Jvm.MethodName) "FaslDesk"), (Jvm.Cond.methodLinkNest "FaslDesk$Image" (24 : Nat) ({ cls := "FaslDesk$Frame", name := "<init>", desc := "()V" } : Jvm.MethodName) "FaslDesk"), (Jvm.Cond.methodLinkNest "FaslDesk$Form" (21 : Nat) ({ cls := "FaslDesk", name := "within", desc := "(III)Z" } : Jvm.MethodName) "FaslDesk"), (Jvm.Cond.methodLinkNest "FaslDesk$Interpreter" (32 : Nat) ({ cls := "FaslDesk", name := "within", desc := "(III)Z" } : Jvm.MethodName) "FaslDesk"), (Jvm.Cond.methodLinkNest "FaslDesk$Code" (21 : Nat) ({ cls := "FaslDesk", name := "within", desc := "(III)Z" } : Jvm.MethodName) "FaslDesk"), (Jvm.Cond.methodLinkNest "FaslDesk$Image" (25 : Nat) ({ cls := "FaslDesk", name := "within", desc := "(III)Z" } : Jvm.MethodName) "FaslDesk"), (Jvm.Cond.methodLinkNest "FaslDesk" (74 : Nat) ({ cls := "FaslDesk$Interpreter", name := "answer", desc := "(IIII)I" } : Jvm.MethodName) "FaslDesk"), (Jvm.Cond.methodLinkNest "FaslDesk" (168 : Nat) ({ cls := "FaslDesk$Image", name := "answer", desc := "(IIII)I" } : Jvm.MethodName) "FaslDesk")]
def xv_ra : List String := ["FaslDesk$Form", "FaslDesk$Frame", "FaslDesk$OpenForms", "FaslDesk$Entry", "FaslDesk$Code"]
def xv_T0 : u_T := fun k => match k with
  | 0 => ("FaslDesk$Form", "op", "[I", true)
  | 1 => ("FaslDesk$Form", "a", "[I", true)
  | 2 => ("FaslDesk$Form", "length", "I", false)
  | 3 => ("FaslDesk$Form", "parameters", "I", false)
  | _ => ("FaslDesk$Form", "starts", "[I", true)
def xv_T1 : u_T := fun k => match k with
  | 0 => ("FaslDesk$Frame", "variables", "[I", true)
  | 1 => ("FaslDesk$Frame", "values", "[I", true)
  | _ => ("FaslDesk$Frame", "size", "I", false)
def xv_T2 : u_T := fun k => match k with
  | 0 => ("FaslDesk$OpenForms", "places", "[I", true)
  | 1 => ("FaslDesk$OpenForms", "parts", "[I", true)
  | _ => ("FaslDesk$OpenForms", "size", "I", false)
def xv_T3 : u_T := fun k => match k with
  | 0 => ("FaslDesk$Interpreter", "forms", "[LFaslDesk$Form;", true)
  | 1 => ("FaslDesk$Interpreter", "frames", "[LFaslDesk$Frame;", true)
  | _ => ("FaslDesk$Interpreter", "opens", "[LFaslDesk$OpenForms;", true)
def xv_T4 : u_T := fun k => match k with
  | 0 => ("FaslDesk$Code", "op", "[I", true)
  | 1 => ("FaslDesk$Code", "first", "[I", true)
  | 2 => ("FaslDesk$Code", "second", "[I", true)
  | _ => ("FaslDesk$Code", "length", "I", false)
def xv_T5 : u_T := fun k => match k with
  | 0 => ("FaslDesk$Entry", "code", "LFaslDesk$Code;", true)
  | 1 => ("FaslDesk$Entry", "ofTimes", "[Z", true)
  | 2 => ("FaslDesk$Entry", "number", "I", false)
  | 3 => ("FaslDesk$Entry", "parameters", "I", false)
  | 4 => ("FaslDesk$Entry", "stack", "I", false)
  | 5 => ("FaslDesk$Entry", "namedFor", "I", false)
  | 6 => ("FaslDesk$Entry", "octetChanged", "Z", false)
  | 7 => ("FaslDesk$Entry", "sealedOps", "[I", true)
  | 8 => ("FaslDesk$Entry", "sealedNumber", "I", false)
  | _ => ("FaslDesk$Entry", "sealedOctet", "Z", false)
def xv_T6 : u_T := fun k => match k with
  | 0 => ("FaslDesk$Compiler", "form", "LFaslDesk$Form;", false)
  | 1 => ("FaslDesk$Compiler", "target", "LFaslDesk$Entry;", false)
  | 2 => ("FaslDesk$Compiler", "code", "LFaslDesk$Code;", false)
  | _ => ("FaslDesk$Compiler", "height", "I", false)
def xv_T7 : u_T := fun k => match k with
  | 0 => ("FaslDesk$CodeCheck", "heights", "[I", true)
  | 1 => ("FaslDesk$CodeCheck", "reached", "[I", true)
  | 2 => ("FaslDesk$CodeCheck", "reachedSize", "I", false)
  | _ => ("FaslDesk$CodeCheck", "code", "LFaslDesk$Code;", false)
def xv_T8 : u_T := fun k => match k with
  | 0 => ("FaslDesk$Archive", "entries", "[LFaslDesk$Entry;", true)
  | 1 => ("FaslDesk$Archive", "size", "I", false)
  | 2 => ("FaslDesk$Archive", "magic", "I", false)
  | 3 => ("FaslDesk$Archive", "stated", "I", false)
  | 4 => ("FaslDesk$Archive", "faultAt", "I", false)
  | _ => ("FaslDesk$Archive", "codeCheck", "LFaslDesk$CodeCheck;", true)
def xv_T9 : u_T := fun k => match k with
  | 0 => ("FaslDesk$Image", "codes", "[LFaslDesk$Code;", true)
  | _ => ("FaslDesk$Image", "frames", "[LFaslDesk$Frame;", true)
def xv_T10 : u_T := fun k => match k with
  | 0 => ("FaslDesk", "draft", "LFaslDesk$Form;", true)
  | 1 => ("FaslDesk", "interpreter", "LFaslDesk$Interpreter;", true)
  | 2 => ("FaslDesk", "compiler", "LFaslDesk$Compiler;", true)
  | 3 => ("FaslDesk", "archive", "LFaslDesk$Archive;", true)
  | 4 => ("FaslDesk", "image", "LFaslDesk$Image;", true)
  | 5 => ("FaslDesk", "imagesMade", "I", false)
  | 6 => ("FaslDesk", "faultsFound", "I", false)
  | _ => ("FaslDesk", "latestFaultAt", "I", false)
def xv_T11 : u_T := fun k => match k with
  | 0 => ("FaslDeskModel", "op", "[I", true)
  | 1 => ("FaslDeskModel", "arg", "[I", true)
  | 2 => ("FaslDeskModel", "length", "[I", true)
  | 3 => ("FaslDeskModel", "params", "[I", true)
  | 4 => ("FaslDeskModel", "up", "[I", true)
  | 5 => ("FaslDeskModel", "part", "[I", true)
  | 6 => ("FaslDeskModel", "uOp", "[I", true)
  | 7 => ("FaslDeskModel", "uA", "[I", true)
  | 8 => ("FaslDeskModel", "uB", "[I", true)
  | 9 => ("FaslDeskModel", "many", "[I", true)
  | 10 => ("FaslDeskModel", "most", "[I", true)
  | 11 => ("FaslDeskModel", "way", "[I", true)
  | 12 => ("FaslDeskModel", "fixed", "[Z", true)
  | 13 => ("FaslDeskModel", "image", "[Z", true)
  | 14 => ("FaslDeskModel", "octet", "[Z", true)
  | 15 => ("FaslDeskModel", "sealOctet", "[Z", true)
  | 16 => ("FaslDeskModel", "number", "[I", true)
  | 17 => ("FaslDeskModel", "eParams", "[I", true)
  | 18 => ("FaslDeskModel", "named", "[I", true)
  | 19 => ("FaslDeskModel", "sealNumber", "[I", true)
  | 20 => ("FaslDeskModel", "sealOp", "[I", true)
  | 21 => ("FaslDeskModel", "iParams", "[I", true)
  | 22 => ("FaslDeskModel", "stack", "[I", true)
  | 23 => ("FaslDeskModel", "local", "[I", true)
  | 24 => ("FaslDeskModel", "at", "[I", true)
  | 25 => ("FaslDeskModel", "who", "[I", true)
  | 26 => ("FaslDeskModel", "open", "[I", true)
  | 27 => ("FaslDeskModel", "stage", "[I", true)
  | 28 => ("FaslDeskModel", "patch", "[I", true)
  | 29 => ("FaslDeskModel", "magic", "I", false)
  | 30 => ("FaslDeskModel", "claimed", "I", false)
  | 31 => ("FaslDeskModel", "entries", "I", false)
  | 32 => ("FaslDeskModel", "images", "I", false)
  | 33 => ("FaslDeskModel", "faults", "I", false)
  | 34 => ("FaslDeskModel", "faultEntry", "I", false)
  | 35 => ("FaslDeskModel", "thrown", "I", false)
  | _ => ("FaslDeskModel", "units", "I", false)
def xv_Tx : u_T := fun _ => ("", "", "", false)
def xv_cl : List vw_C := [("FaslDesk$Form", xv_T0, 5), ("FaslDesk$Frame", xv_T1, 3), ("FaslDesk$OpenForms", xv_T2, 3), ("FaslDesk$Interpreter", xv_T3, 3), ("FaslDesk$Code", xv_T4, 4), ("FaslDesk$Entry", xv_T5, 10), ("FaslDesk$Compiler", xv_T6, 4), ("FaslDesk$CodeCheck", xv_T7, 4), ("FaslDesk$Archive", xv_T8, 6), ("FaslDesk$Image", xv_T9, 2), ("FaslDesk", xv_T10, 8), ("FaslDeskModel", xv_T11, 37), ("java/util/NoSuchElementException", xv_Tx, 0), ("java/lang/ArithmeticException", xv_Tx, 0), ("java/lang/IllegalStateException", xv_Tx, 0)]
abbrev xv_nc : Nat := 15
theorem xv_nc_le : xv_nc ≤ 99 := by decide
def xv_nm (ci : Nat) : String := (xv_cl.getD ci ("", xv_Tx, 0)).1
def xv_T (ci : Nat) : u_T := (xv_cl.getD ci ("", xv_Tx, 0)).2.1
def xv_nf (ci : Nat) : Nat := (xv_cl.getD ci ("", xv_Tx, 0)).2.2
def xv_ty (ci j : Nat) : FieldType := (parseFieldDescriptor (xv_T ci j).2.2.1).getD .int
def xv_rf (ci j : Nat) : Bool := (xv_ty ci j).isReference
set_option maxRecDepth 100000 in
theorem xv_cw0 : ∀ w ∈ u_ws (xv_nm 0) (xv_T 0) (xv_nf 0), w ∈ xv_BIG := by
  intro w hw
  obtain ⟨k, hk, rfl⟩ := List.mem_map.mp hw
  have hk : k < 5 := List.mem_range.mp hk
  rcases (by omega : k = 0 ∨ k = 1 ∨ k = 2 ∨ k = 3 ∨ k = 4) with rfl | rfl | rfl | rfl | rfl
  · exact xv_in 51 rfl rfl
  · exact xv_in 53 rfl rfl
  · exact xv_in 55 rfl rfl
  · exact xv_in 57 rfl rfl
  · exact xv_in 59 rfl rfl
set_option maxRecDepth 100000 in
theorem xv_cw1 : ∀ w ∈ u_ws (xv_nm 1) (xv_T 1) (xv_nf 1), w ∈ xv_BIG := by
  intro w hw
  obtain ⟨k, hk, rfl⟩ := List.mem_map.mp hw
  have hk : k < 3 := List.mem_range.mp hk
  rcases (by omega : k = 0 ∨ k = 1 ∨ k = 2) with rfl | rfl | rfl
  · exact xv_in 86 rfl rfl
  · exact xv_in 88 rfl rfl
  · exact xv_in 90 rfl rfl
set_option maxRecDepth 100000 in
theorem xv_cw2 : ∀ w ∈ u_ws (xv_nm 2) (xv_T 2) (xv_nf 2), w ∈ xv_BIG := by
  intro w hw
  obtain ⟨k, hk, rfl⟩ := List.mem_map.mp hw
  have hk : k < 3 := List.mem_range.mp hk
  rcases (by omega : k = 0 ∨ k = 1 ∨ k = 2) with rfl | rfl | rfl
  · exact xv_in 101 rfl rfl
  · exact xv_in 103 rfl rfl
  · exact xv_in 105 rfl rfl
set_option maxRecDepth 100000 in
theorem xv_cw3 : ∀ w ∈ u_ws (xv_nm 3) (xv_T 3) (xv_nf 3), w ∈ xv_BIG := by
  intro w hw
  obtain ⟨k, hk, rfl⟩ := List.mem_map.mp hw
  have hk : k < 3 := List.mem_range.mp hk
  rcases (by omega : k = 0 ∨ k = 1 ∨ k = 2) with rfl | rfl | rfl
  · exact xv_in 112 rfl rfl
  · exact xv_in 114 rfl rfl
  · exact xv_in 116 rfl rfl
set_option maxRecDepth 100000 in
theorem xv_cw4 : ∀ w ∈ u_ws (xv_nm 4) (xv_T 4) (xv_nf 4), w ∈ xv_BIG := by
  intro w hw
  obtain ⟨k, hk, rfl⟩ := List.mem_map.mp hw
  have hk : k < 4 := List.mem_range.mp hk
  rcases (by omega : k = 0 ∨ k = 1 ∨ k = 2 ∨ k = 3) with rfl | rfl | rfl | rfl
  · exact xv_in 197 rfl rfl
  · exact xv_in 199 rfl rfl
  · exact xv_in 201 rfl rfl
  · exact xv_in 203 rfl rfl
set_option maxRecDepth 100000 in
theorem xv_cw5 : ∀ w ∈ u_ws (xv_nm 5) (xv_T 5) (xv_nf 5), w ∈ xv_BIG := by
  intro w hw
  obtain ⟨k, hk, rfl⟩ := List.mem_map.mp hw
  have hk : k < 10 := List.mem_range.mp hk
  rcases (by omega : k = 0 ∨ k = 1 ∨ k = 2 ∨ k = 3 ∨ k = 4 ∨ k = 5 ∨ k = 6 ∨ k = 7 ∨ k = 8 ∨ k = 9) with rfl | rfl | rfl | rfl | rfl | rfl | rfl | rfl | rfl | rfl
  · exact xv_in 233 rfl rfl
  · exact xv_in 235 rfl rfl
  · exact xv_in 237 rfl rfl
  · exact xv_in 239 rfl rfl
  · exact xv_in 241 rfl rfl
  · exact xv_in 243 rfl rfl
  · exact xv_in 245 rfl rfl
  · exact xv_in 247 rfl rfl
  · exact xv_in 249 rfl rfl
  · exact xv_in 251 rfl rfl
set_option maxRecDepth 100000 in
theorem xv_cw6 : ∀ w ∈ u_ws (xv_nm 6) (xv_T 6) (xv_nf 6), w ∈ xv_BIG := by
  intro w hw
  obtain ⟨k, hk, rfl⟩ := List.mem_map.mp hw
  have hk : k < 4 := List.mem_range.mp hk
  rcases (by omega : k = 0 ∨ k = 1 ∨ k = 2 ∨ k = 3) with rfl | rfl | rfl | rfl
  · exact xv_in 129 rfl rfl
  · exact xv_in 131 rfl rfl
  · exact xv_in 133 rfl rfl
  · exact xv_in 135 rfl rfl
set_option maxRecDepth 100000 in
theorem xv_cw7 : ∀ w ∈ u_ws (xv_nm 7) (xv_T 7) (xv_nf 7), w ∈ xv_BIG := by
  intro w hw
  obtain ⟨k, hk, rfl⟩ := List.mem_map.mp hw
  have hk : k < 4 := List.mem_range.mp hk
  rcases (by omega : k = 0 ∨ k = 1 ∨ k = 2 ∨ k = 3) with rfl | rfl | rfl | rfl
  · exact xv_in 156 rfl rfl
  · exact xv_in 158 rfl rfl
  · exact xv_in 160 rfl rfl
  · exact xv_in 162 rfl rfl
set_option maxRecDepth 100000 in
theorem xv_cw8 : ∀ w ∈ u_ws (xv_nm 8) (xv_T 8) (xv_nf 8), w ∈ xv_BIG := by
  intro w hw
  obtain ⟨k, hk, rfl⟩ := List.mem_map.mp hw
  have hk : k < 6 := List.mem_range.mp hk
  rcases (by omega : k = 0 ∨ k = 1 ∨ k = 2 ∨ k = 3 ∨ k = 4 ∨ k = 5) with rfl | rfl | rfl | rfl | rfl | rfl
  · exact xv_in 268 rfl rfl
  · exact xv_in 270 rfl rfl
  · exact xv_in 272 rfl rfl
  · exact xv_in 274 rfl rfl
  · exact xv_in 276 rfl rfl
  · exact xv_in 278 rfl rfl
set_option maxRecDepth 100000 in
theorem xv_cw9 : ∀ w ∈ u_ws (xv_nm 9) (xv_T 9) (xv_nf 9), w ∈ xv_BIG := by
  intro w hw
  obtain ⟨k, hk, rfl⟩ := List.mem_map.mp hw
  have hk : k < 2 := List.mem_range.mp hk
  rcases (by omega : k = 0 ∨ k = 1) with rfl | rfl
  · exact xv_in 294 rfl rfl
  · exact xv_in 296 rfl rfl
set_option maxRecDepth 100000 in
theorem xv_cw10 : ∀ w ∈ u_ws (xv_nm 10) (xv_T 10) (xv_nf 10), w ∈ xv_BIG := by
  intro w hw
  obtain ⟨k, hk, rfl⟩ := List.mem_map.mp hw
  have hk : k < 8 := List.mem_range.mp hk
  rcases (by omega : k = 0 ∨ k = 1 ∨ k = 2 ∨ k = 3 ∨ k = 4 ∨ k = 5 ∨ k = 6 ∨ k = 7) with rfl | rfl | rfl | rfl | rfl | rfl | rfl | rfl
  · exact xv_in 307 rfl rfl
  · exact xv_in 309 rfl rfl
  · exact xv_in 311 rfl rfl
  · exact xv_in 313 rfl rfl
  · exact xv_in 315 rfl rfl
  · exact xv_in 317 rfl rfl
  · exact xv_in 319 rfl rfl
  · exact xv_in 321 rfl rfl
set_option maxRecDepth 100000 in
theorem xv_cw11 : ∀ w ∈ u_ws (xv_nm 11) (xv_T 11) (xv_nf 11), w ∈ xv_BIG := by
  intro w hw
  obtain ⟨k, hk, rfl⟩ := List.mem_map.mp hw
  have hk : k < 37 := List.mem_range.mp hk
  rcases (by omega : k = 0 ∨ k = 1 ∨ k = 2 ∨ k = 3 ∨ k = 4 ∨ k = 5 ∨ k = 6 ∨ k = 7 ∨ k = 8 ∨ k = 9 ∨ k = 10 ∨ k = 11 ∨ k = 12 ∨ k = 13 ∨ k = 14 ∨ k = 15 ∨ k = 16 ∨ k = 17 ∨ k = 18 ∨ k = 19 ∨ k = 20 ∨ k = 21 ∨ k = 22 ∨ k = 23 ∨ k = 24 ∨ k = 25 ∨ k = 26 ∨ k = 27 ∨ k = 28 ∨ k = 29 ∨ k = 30 ∨ k = 31 ∨ k = 32 ∨ k = 33 ∨ k = 34 ∨ k = 35 ∨ k = 36) with rfl | rfl | rfl | rfl | rfl | rfl | rfl | rfl | rfl | rfl | rfl | rfl | rfl | rfl | rfl | rfl | rfl | rfl | rfl | rfl | rfl | rfl | rfl | rfl | rfl | rfl | rfl | rfl | rfl | rfl | rfl | rfl | rfl | rfl | rfl | rfl | rfl
  · exact xv_in 851 rfl rfl
  · exact xv_in 853 rfl rfl
  · exact xv_in 855 rfl rfl
  · exact xv_in 857 rfl rfl
  · exact xv_in 859 rfl rfl
  · exact xv_in 861 rfl rfl
  · exact xv_in 863 rfl rfl
  · exact xv_in 865 rfl rfl
  · exact xv_in 867 rfl rfl
  · exact xv_in 869 rfl rfl
  · exact xv_in 871 rfl rfl
  · exact xv_in 873 rfl rfl
  · exact xv_in 875 rfl rfl
  · exact xv_in 877 rfl rfl
  · exact xv_in 879 rfl rfl
  · exact xv_in 881 rfl rfl
  · exact xv_in 883 rfl rfl
  · exact xv_in 885 rfl rfl
  · exact xv_in 887 rfl rfl
  · exact xv_in 889 rfl rfl
  · exact xv_in 891 rfl rfl
  · exact xv_in 893 rfl rfl
  · exact xv_in 895 rfl rfl
  · exact xv_in 897 rfl rfl
  · exact xv_in 899 rfl rfl
  · exact xv_in 901 rfl rfl
  · exact xv_in 903 rfl rfl
  · exact xv_in 905 rfl rfl
  · exact xv_in 907 rfl rfl
  · exact xv_in 909 rfl rfl
  · exact xv_in 911 rfl rfl
  · exact xv_in 913 rfl rfl
  · exact xv_in 915 rfl rfl
  · exact xv_in 917 rfl rfl
  · exact xv_in 919 rfl rfl
  · exact xv_in 921 rfl rfl
  · exact xv_in 923 rfl rfl
set_option maxRecDepth 100000 in
theorem xv_cls (ci : Nat) (hc : ci < xv_nc) : (∀ w ∈ u_ws (xv_nm ci) (xv_T ci) (xv_nf ci), w ∈ xv_BIG) ∧ (∀ k, k < xv_nf ci → parseFieldDescriptor (xv_T ci k).2.2.1 = some (xv_ty ci k)) ∧ (∀ a, a < xv_nf ci → ∀ b, b < xv_nf ci → a ≠ b → (xv_T ci a).2.1 ≠ (xv_T ci b).2.1) := by
  rcases (by unfold xv_nc at hc; omega : ci = 0 ∨ ci = 1 ∨ ci = 2 ∨ ci = 3 ∨ ci = 4 ∨ ci = 5 ∨ ci = 6 ∨ ci = 7 ∨ ci = 8 ∨ ci = 9 ∨ ci = 10 ∨ ci = 11 ∨ ci = 12 ∨ ci = 13 ∨ ci = 14) with rfl | rfl | rfl | rfl | rfl | rfl | rfl | rfl | rfl | rfl | rfl | rfl | rfl | rfl | rfl
  · exact ⟨xv_cw0, by decide +kernel, by decide +kernel⟩
  · exact ⟨xv_cw1, by decide +kernel, by decide +kernel⟩
  · exact ⟨xv_cw2, by decide +kernel, by decide +kernel⟩
  · exact ⟨xv_cw3, by decide +kernel, by decide +kernel⟩
  · exact ⟨xv_cw4, by decide +kernel, by decide +kernel⟩
  · exact ⟨xv_cw5, by decide +kernel, by decide +kernel⟩
  · exact ⟨xv_cw6, by decide +kernel, by decide +kernel⟩
  · exact ⟨xv_cw7, by decide +kernel, by decide +kernel⟩
  · exact ⟨xv_cw8, by decide +kernel, by decide +kernel⟩
  · exact ⟨xv_cw9, by decide +kernel, by decide +kernel⟩
  · exact ⟨xv_cw10, by decide +kernel, by decide +kernel⟩
  · exact ⟨xv_cw11, by decide +kernel, by decide +kernel⟩
  · exact ⟨by decide +kernel, by decide +kernel, by decide +kernel⟩
  · exact ⟨by decide +kernel, by decide +kernel, by decide +kernel⟩
  · exact ⟨by decide +kernel, by decide +kernel, by decide +kernel⟩
theorem xv_cls4 (ci : Nat) (hc : ci < xv_nc) : ∀ j, j < xv_nf ci → defaultValue (xv_ty ci j) = if xv_rf ci j = true then Value.null else Value.int 0 := by
  rcases (by unfold xv_nc at hc; omega : ci = 0 ∨ ci = 1 ∨ ci = 2 ∨ ci = 3 ∨ ci = 4 ∨ ci = 5 ∨ ci = 6 ∨ ci = 7 ∨ ci = 8 ∨ ci = 9 ∨ ci = 10 ∨ ci = 11 ∨ ci = 12 ∨ ci = 13 ∨ ci = 14) with rfl | rfl | rfl | rfl | rfl | rfl | rfl | rfl | rfl | rfl | rfl | rfl | rfl | rfl | rfl
  · decide +kernel
  · decide +kernel
  · decide +kernel
  · decide +kernel
  · decide +kernel
  · decide +kernel
  · decide +kernel
  · decide +kernel
  · decide +kernel
  · decide +kernel
  · decide +kernel
  · decide +kernel
  · decide +kernel
  · decide +kernel
  · decide +kernel
abbrev xv_ns : Nat := 3
def xv_sC (k : Nat) : String := match k with
  | 0 => "FaslDesk$Form"
  | 1 => "FaslDesk$Code"
  | _ => "FaslDesk$Code"
def xv_sn (k : Nat) : String := match k with
  | 0 => "PARTS"
  | 1 => "TAKES"
  | _ => "LEAVES"
def xv_sL (k : Nat) : List Int32 := match k with
  | 0 => [0, 0, 2, 2, 2, 2, 2, 2, 2, 2, 2, 2, 1, 3, 2, 1, 2, 3]
  | 1 => [0, 0, 2, 2, 2, 2, 2, 2, 2, 2, 2, 2, 1, 1, 1, 0, 3, 1, 1, 1, 2, 0]
  | _ => [1, 1, 1, 1, 1, 1, 1, 1, 1, 1, 1, 1, 1, 0, 0, 0, 1, 0, 0, 2, 2, 0]
def xv_sN (k : Nat) : Nat := (xv_sL k).length
def xv_sf (k j : Nat) : Int32 := (xv_sL k).getD j 0
