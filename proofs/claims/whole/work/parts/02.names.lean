def R_A : String := "RedactCheck$Area"
def R_ABC : String := "java/util/AbstractCollection"
def R_ABL : String := "java/util/AbstractList"
def R_AL : String := "java/util/ArrayList"
def R_ARS : String := "java/util/Arrays"
def R_ASP : String := "jdk/internal/util/ArraysSupport"
def R_C : String := "RedactCheck$Codes"
def R_D : String := "RedactCheck$Word"
def R_EX : String := "java/lang/Exception"
def R_F : String := "RedactCheck$Findings"
def R_IA : String := "java/lang/IllegalArgumentException"
def R_IO : String := "java/lang/IndexOutOfBoundsException"
def R_L : String := "RedactCheckLaw"
def R_LNG : String := "java/lang/Long"
def R_M : String := "RedactCheckModel"
def R_MTH : String := "java/lang/Math"
def R_O : String := "RedactCheck$Row"
def R_OB : String := "java/lang/Object"
def R_OBJ : String := "java/util/Objects"
def R_PRE : String := "jdk/internal/util/Preconditions"
def R_R : String := "RedactCheck"
def R_RT : String := "java/lang/RuntimeException"
def R_S : String := "RedactCheck$SignRow"
def R_T : String := "RedactCheck$Store"
def R_TH : String := "java/lang/Throwable"
def R_U : String := "RedactCheck$Use"
def R_UO : String := "java/lang/UnsupportedOperationException"
def F_R : u_T := fun k => match k with
  | 0 => ("RedactCheck", "pages", "Ljava/util/ArrayList;", true)
  | 1 => ("RedactCheck", "forms", "Ljava/util/ArrayList;", true)
  | 2 => ("RedactCheck", "uses", "Ljava/util/ArrayList;", true)
  | 3 => ("RedactCheck", "words", "Ljava/util/ArrayList;", true)
  | 4 => ("RedactCheck", "areas", "Ljava/util/ArrayList;", true)
  | 5 => ("RedactCheck", "stores", "Ljava/util/ArrayList;", true)
  | 6 => ("RedactCheck", "findings", "LRedactCheck$Findings;", true)
  | _ => ("RedactCheck", "codes", "LRedactCheck$Codes;", true)
def ft_R : Nat → FieldType := fun k => match k with
  | 0 => .object "java/util/ArrayList"
  | 1 => .object "java/util/ArrayList"
  | 2 => .object "java/util/ArrayList"
  | 3 => .object "java/util/ArrayList"
  | 4 => .object "java/util/ArrayList"
  | 5 => .object "java/util/ArrayList"
  | 6 => .object "RedactCheck$Findings"
  | _ => .object "RedactCheck$Codes"
theorem fn_R : ∀ a, a < 8 → ∀ b, b < 8 → a ≠ b → (F_R a).2.1 ≠ (F_R b).2.1 := by decide +kernel
theorem ft_R_ok : ∀ k, k < 8 → parseFieldDescriptor (F_R k).2.2.1 = some (ft_R k) := by decide +kernel
def F_S : u_T := fun k => match k with
  | 0 => ("RedactCheck$SignRow", "number", "I", true)
  | 1 => ("RedactCheck$SignRow", "parts", "[I", true)
  | _ => ("RedactCheck$Row", "count", "I", false)
def ft_S : Nat → FieldType := fun k => match k with
  | 0 => .int
  | 1 => .array .int
  | _ => .int
theorem fn_S : ∀ a, a < 3 → ∀ b, b < 3 → a ≠ b → (F_S a).2.1 ≠ (F_S b).2.1 := by decide +kernel
theorem ft_S_ok : ∀ k, k < 3 → parseFieldDescriptor (F_S k).2.2.1 = some (ft_S k) := by decide +kernel
def F_C : u_T := fun k => match k with
  | 0 => ("RedactCheck$Codes", "values", "[I", true)
  | _ => ("RedactCheck$Row", "count", "I", false)
def ft_C : Nat → FieldType := fun k => match k with
  | 0 => .array .int
  | _ => .int
theorem fn_C : ∀ a, a < 2 → ∀ b, b < 2 → a ≠ b → (F_C a).2.1 ≠ (F_C b).2.1 := by decide +kernel
theorem ft_C_ok : ∀ k, k < 2 → parseFieldDescriptor (F_C k).2.2.1 = some (ft_C k) := by decide +kernel
def F_D : u_T := fun k => match k with
  | 0 => ("RedactCheck$Word", "count", "I", false)
  | _ => ("RedactCheck$Word", "letters", "[I", true)
def ft_D : Nat → FieldType := fun k => match k with
  | 0 => .int
  | _ => .array .int
theorem fn_D : ∀ a, a < 2 → ∀ b, b < 2 → a ≠ b → (F_D a).2.1 ≠ (F_D b).2.1 := by decide +kernel
theorem ft_D_ok : ∀ k, k < 2 → parseFieldDescriptor (F_D k).2.2.1 = some (ft_D k) := by decide +kernel
def F_A : u_T := fun k => match k with
  | 0 => ("RedactCheck$Area", "page", "I", true)
  | 1 => ("RedactCheck$Area", "x", "I", true)
  | 2 => ("RedactCheck$Area", "y", "I", true)
  | 3 => ("RedactCheck$Area", "wide", "I", true)
  | _ => ("RedactCheck$Area", "high", "I", true)
def ft_A : Nat → FieldType := fun k => match k with
  | 0 => .int
  | 1 => .int
  | 2 => .int
  | 3 => .int
  | _ => .int
theorem fn_A : ∀ a, a < 5 → ∀ b, b < 5 → a ≠ b → (F_A a).2.1 ≠ (F_A b).2.1 := by decide +kernel
theorem ft_A_ok : ∀ k, k < 5 → parseFieldDescriptor (F_A k).2.2.1 = some (ft_A k) := by decide +kernel
def F_U : u_T := fun k => match k with
  | 0 => ("RedactCheck$Use", "page", "I", true)
  | 1 => ("RedactCheck$Use", "dx", "I", true)
  | 2 => ("RedactCheck$Use", "dy", "I", true)
  | 3 => ("RedactCheck$Use", "form", "LRedactCheck$SignRow;", false)
  | 4 => ("RedactCheck$Use", "marks", "J", false)
  | _ => ("RedactCheck$Use", "twin", "LRedactCheck$Use;", false)
def ft_U : Nat → FieldType := fun k => match k with
  | 0 => .int
  | 1 => .int
  | 2 => .int
  | 3 => .object "RedactCheck$SignRow"
  | 4 => .long
  | _ => .object "RedactCheck$Use"
theorem fn_U : ∀ a, a < 6 → ∀ b, b < 6 → a ≠ b → (F_U a).2.1 ≠ (F_U b).2.1 := by decide +kernel
theorem ft_U_ok : ∀ k, k < 6 → parseFieldDescriptor (F_U k).2.2.1 = some (ft_U k) := by decide +kernel
def F_T : u_T := fun k => match k with
  | 0 => ("RedactCheck$Store", "encoding", "I", true)
  | 1 => ("RedactCheck$Store", "count", "I", false)
  | _ => ("RedactCheck$Store", "bytes", "[B", true)
def ft_T : Nat → FieldType := fun k => match k with
  | 0 => .int
  | 1 => .int
  | _ => .array .byte
theorem fn_T : ∀ a, a < 3 → ∀ b, b < 3 → a ≠ b → (F_T a).2.1 ≠ (F_T b).2.1 := by decide +kernel
theorem ft_T_ok : ∀ k, k < 3 → parseFieldDescriptor (F_T k).2.2.1 = some (ft_T k) := by decide +kernel
def F_F : u_T := fun k => match k with
  | 0 => ("RedactCheck$Findings", "count", "I", false)
  | _ => ("RedactCheck$Findings", "parts", "[I", true)
def ft_F : Nat → FieldType := fun k => match k with
  | 0 => .int
  | _ => .array .int
theorem fn_F : ∀ a, a < 2 → ∀ b, b < 2 → a ≠ b → (F_F a).2.1 ≠ (F_F b).2.1 := by decide +kernel
theorem ft_F_ok : ∀ k, k < 2 → parseFieldDescriptor (F_F k).2.2.1 = some (ft_F k) := by decide +kernel
def F_AL : u_T := fun k => match k with
  | 0 => ("java/util/ArrayList", "elementData", "[Ljava/lang/Object;", false)
  | 1 => ("java/util/ArrayList", "size", "I", false)
  | _ => ("java/util/AbstractList", "modCount", "I", false)
def ft_AL : Nat → FieldType := fun k => match k with
  | 0 => .array (.object "java/lang/Object")
  | 1 => .int
  | _ => .int
theorem fn_AL : ∀ a, a < 3 → ∀ b, b < 3 → a ≠ b → (F_AL a).2.1 ≠ (F_AL b).2.1 := by decide +kernel
theorem ft_AL_ok : ∀ k, k < 3 → parseFieldDescriptor (F_AL k).2.2.1 = some (ft_AL k) := by decide +kernel
def F_M : u_T := fun k => match k with
  | 0 => ("RedactCheckModel", "thrown", "I", false)
  | 1 => ("RedactCheckModel", "sizes", "[I", true)
  | 2 => ("RedactCheckModel", "codes", "[I", true)
  | 3 => ("RedactCheckModel", "xs", "[I", true)
  | 4 => ("RedactCheckModel", "ys", "[I", true)
  | 5 => ("RedactCheckModel", "widths", "[I", true)
  | 6 => ("RedactCheckModel", "forms", "I", false)
  | 7 => ("RedactCheckModel", "uses", "I", false)
  | 8 => ("RedactCheckModel", "usePage", "[I", true)
  | 9 => ("RedactCheckModel", "useForm", "[I", true)
  | 10 => ("RedactCheckModel", "useX", "[I", true)
  | 11 => ("RedactCheckModel", "useY", "[I", true)
  | 12 => ("RedactCheckModel", "words", "I", false)
  | 13 => ("RedactCheckModel", "wordSizes", "[I", true)
  | 14 => ("RedactCheckModel", "letters", "[I", true)
  | 15 => ("RedactCheckModel", "areas", "I", false)
  | 16 => ("RedactCheckModel", "areaPage", "[I", true)
  | 17 => ("RedactCheckModel", "areaX", "[I", true)
  | 18 => ("RedactCheckModel", "areaY", "[I", true)
  | 19 => ("RedactCheckModel", "areaWide", "[I", true)
  | 20 => ("RedactCheckModel", "areaHigh", "[I", true)
  | 21 => ("RedactCheckModel", "stores", "I", false)
  | 22 => ("RedactCheckModel", "encodings", "[I", true)
  | 23 => ("RedactCheckModel", "storeSizes", "[I", true)
  | 24 => ("RedactCheckModel", "bytes", "[I", true)
  | 25 => ("RedactCheckModel", "left", "I", false)
  | 26 => ("RedactCheckModel", "found", "[I", true)
  | 27 => ("RedactCheckModel", "marks", "[Z", true)
  | 28 => ("RedactCheckModel", "copyOf", "[I", true)
  | 29 => ("RedactCheckModel", "rowSize", "I", false)
  | 30 => ("RedactCheckModel", "row", "[I", true)
  | _ => ("RedactCheckModel", "inWord", "[Z", true)
def ft_M : Nat → FieldType := fun k => match k with
  | 0 => .int
  | 1 => .array .int
  | 2 => .array .int
  | 3 => .array .int
  | 4 => .array .int
  | 5 => .array .int
  | 6 => .int
  | 7 => .int
  | 8 => .array .int
  | 9 => .array .int
  | 10 => .array .int
  | 11 => .array .int
  | 12 => .int
  | 13 => .array .int
  | 14 => .array .int
  | 15 => .int
  | 16 => .array .int
  | 17 => .array .int
  | 18 => .array .int
  | 19 => .array .int
  | 20 => .array .int
  | 21 => .int
  | 22 => .array .int
  | 23 => .array .int
  | 24 => .array .int
  | 25 => .int
  | 26 => .array .int
  | 27 => .array .boolean
  | 28 => .array .int
  | 29 => .int
  | 30 => .array .int
  | _ => .array .boolean
theorem fn_M : ∀ a, a < 32 → ∀ b, b < 32 → a ≠ b → (F_M a).2.1 ≠ (F_M b).2.1 := by decide +kernel
theorem ft_M_ok : ∀ k, k < 32 → parseFieldDescriptor (F_M k).2.2.1 = some (ft_M k) := by decide +kernel
abbrev classes : List vw_C := [("RedactCheck", F_R, 8), ("RedactCheck$SignRow", F_S, 3), ("RedactCheck$Codes", F_C, 2), ("RedactCheck$Word", F_D, 2), ("RedactCheck$Area", F_A, 5), ("RedactCheck$Use", F_U, 6), ("RedactCheck$Store", F_T, 3), ("RedactCheck$Findings", F_F, 2), ("java/util/ArrayList", F_AL, 3), ("RedactCheckModel", F_M, 32)]
def x_ty : Nat → Nat → FieldType := fun c => match c with
  | 0 => ft_R
  | 1 => ft_S
  | 2 => ft_C
  | 3 => ft_D
  | 4 => ft_A
  | 5 => ft_U
  | 6 => ft_T
  | 7 => ft_F
  | 8 => ft_AL
  | _ => ft_M
theorem x_tyok : ∀ (ci : Nat) (q : vw_C), classes[ci]? = some q → ∀ k, k < q.2.2 → parseFieldDescriptor (q.2.1 k).2.2.1 = some (x_ty ci k) := by
  intro ci q h
  match ci, h with
  | 0, h => cases h; exact ft_R_ok
  | 1, h => cases h; exact ft_S_ok
  | 2, h => cases h; exact ft_C_ok
  | 3, h => cases h; exact ft_D_ok
  | 4, h => cases h; exact ft_A_ok
  | 5, h => cases h; exact ft_U_ok
  | 6, h => cases h; exact ft_T_ok
  | 7, h => cases h; exact ft_F_ok
  | 8, h => cases h; exact ft_AL_ok
  | 9, h => cases h; exact ft_M_ok
  | n + 10, h => simp [classes] at h
theorem x_nm : ∀ (ci : Nat) (q : vw_C), classes[ci]? = some q → ∀ a, a < q.2.2 → ∀ b, b < q.2.2 → a ≠ b → (q.2.1 a).2.1 ≠ (q.2.1 b).2.1 := by
  intro ci q h
  match ci, h with
  | 0, h => cases h; exact fn_R
  | 1, h => cases h; exact fn_S
  | 2, h => cases h; exact fn_C
  | 3, h => cases h; exact fn_D
  | 4, h => cases h; exact fn_A
  | 5, h => cases h; exact fn_U
  | 6, h => cases h; exact fn_T
  | 7, h => cases h; exact fn_F
  | 8, h => cases h; exact fn_AL
  | 9, h => cases h; exact fn_M
  | n + 10, h => simp [classes] at h
/-- the words that stay true where the tables have only grown warmer -/
def xgood : Cond → Bool
  | .methodLinkNest .. => true
  | .castable .. => true
  | .declares .. => true
  | .stringRef .. => true
  | .arrayOver (.object _) => true
  | w => goodWord w
def x_tbl : List Cond := lw_tbl.filter xgood
theorem x_inT {w : Cond} (h : w ∈ tables_1) (hg : xgood w = true) : w ∈ x_tbl := List.mem_filter.mpr ⟨List.mem_append_right _ h, hg⟩
theorem x_in0 {w : Cond} (i : Nat) (h : tables_1_1[i]? = some w) (hg : xgood w = true) : w ∈ x_tbl := x_inT (by show w ∈ tables_1_1 ++ (tables_1_2 ++ (tables_1_3 ++ (tables_1_4 ++ tables_1_5))); exact List.mem_append_left _ (List.mem_of_getElem? h)) hg
theorem x_in1 {w : Cond} (i : Nat) (h : tables_1_2[i]? = some w) (hg : xgood w = true) : w ∈ x_tbl := x_inT (by show w ∈ tables_1_1 ++ (tables_1_2 ++ (tables_1_3 ++ (tables_1_4 ++ tables_1_5))); exact List.mem_append_right _ (List.mem_append_left _ (List.mem_of_getElem? h))) hg
theorem x_in2 {w : Cond} (i : Nat) (h : tables_1_3[i]? = some w) (hg : xgood w = true) : w ∈ x_tbl := x_inT (by show w ∈ tables_1_1 ++ (tables_1_2 ++ (tables_1_3 ++ (tables_1_4 ++ tables_1_5))); exact List.mem_append_right _ (List.mem_append_right _ (List.mem_append_left _ (List.mem_of_getElem? h)))) hg
theorem x_in3 {w : Cond} (i : Nat) (h : tables_1_4[i]? = some w) (hg : xgood w = true) : w ∈ x_tbl := x_inT (by show w ∈ tables_1_1 ++ (tables_1_2 ++ (tables_1_3 ++ (tables_1_4 ++ tables_1_5))); exact List.mem_append_right _ (List.mem_append_right _ (List.mem_append_right _ (List.mem_append_left _ (List.mem_of_getElem? h))))) hg
theorem x_in4 {w : Cond} (i : Nat) (h : tables_1_5[i]? = some w) (hg : xgood w = true) : w ∈ x_tbl := x_inT (by show w ∈ tables_1_1 ++ (tables_1_2 ++ (tables_1_3 ++ (tables_1_4 ++ tables_1_5))); exact List.mem_append_right _ (List.mem_append_right _ (List.mem_append_right _ (List.mem_append_right _ (List.mem_of_getElem? h))))) hg
theorem x_inP {w : Cond} (i : Nat) (h : (k2_sels lw_privs)[i]? = some w) (hg : xgood w = true) : w ∈ x_tbl := List.mem_filter.mpr ⟨List.mem_append_left _ (List.mem_of_getElem? h), hg⟩
